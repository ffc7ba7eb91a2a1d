set_option maxRecDepth 100000 in
theorem ggL_law_X7_init : GoodIn lw_tbl wsX7_init := goodIn_td 40 (goodIn_r _ [71, 72, 73, 74, 75, 76, 59, 214, 86, 87, 60, 215, 113, 114, 61, 216, 170, 171, 64, 217, 201, 202, 65, 218, 77, 78, 79, 80, 85, 81, 89, 90, 91, 115, 116, 117, 118, 119, 155, 121] rfl (by decide +kernel)) (goodIn_td 40 (goodIn_r _ [62, 141, 142, 63, 156, 122, 123, 124, 125, 140, 126, 143, 144, 145, 146, 147, 172, 173, 174, 175, 200, 176, 179, 203, 204, 205, 206, 207, 82, 225, 227, 229, 231, 233, 235, 237, 239, 241, 243, 245] rfl (by decide +kernel)) (goodIn_r _ [102, 104, 106, 108, 110, 161, 163, 165, 167, 185, 187, 189, 191, 193, 195, 197, 209, 211, 133, 135, 137, 150, 152] rfl (by decide +kernel)))
theorem gL_law_X7_init : GoodIn lw_tbl (wsX7_init) := ggL_law_X7_init
set_option maxRecDepth 100000 in
theorem ggL_law_X8_init : GoodIn lw_tbl wsX8_init := goodIn_td 40 (goodIn_r _ [652, 653, 73, 74, 85, 654, 140, 668, 669, 670, 671, 200, 676, 680, 681, 748, 682, 683, 666, 685, 687, 689, 691, 693, 695, 697, 699, 701, 703, 705, 707, 709, 711, 713, 715, 717, 719, 721, 723, 725] rfl (by decide +kernel)) (goodIn_r _ [727, 729, 731, 733, 735, 737, 739, 741, 743, 745] rfl (by decide +kernel))
theorem gL_law_X8_init : GoodIn lw_tbl (wsX8_init) := ggL_law_X8_init
set_option maxRecDepth 100000 in
theorem ggL_law_X7_half : GoodIn lw_tbl wsX7_half := goodIn_r _ [251, 214, 252, 253, 58, 254, 255, 256, 257, 59, 258, 81, 225, 227, 229, 231, 233, 235, 237, 239, 241, 243, 245, 82] rfl (by decide +kernel)
set_option maxRecDepth 100000 in
theorem gL_law_X7_half : GoodIn lw_tbl (wsV RL 13 RX7 yX7_half wsX7_half) := goodIn_app (goodIn_r _ [248, 249, 250, 58] rfl (by decide +kernel)) ggL_law_X7_half
set_option maxRecDepth 100000 in
theorem ggL_law_X8_half : GoodIn lw_tbl wsX8_half := goodIn_r _ [752, 753, 654, 754, 755, 66, 756, 685, 687, 689, 691, 693, 695, 697, 699, 701, 703, 705, 707, 709, 711, 713, 715, 717, 719, 721, 723, 725, 727, 729, 731, 733, 735, 737, 739, 741, 743, 745] rfl (by decide +kernel)
set_option maxRecDepth 100000 in
theorem gL_law_X8_half : GoodIn lw_tbl (wsV RL 17 RX8 yX8_half wsX8_half) := goodIn_app (goodIn_r _ [749, 750, 751, 66] rfl (by decide +kernel)) ggL_law_X8_half
set_option maxRecDepth 100000 in
theorem ggL_law_X7_put : GoodIn lw_tbl wsX7_put := goodIn_r _ [263, 264, 214, 252, 253, 58, 254, 255, 256, 257, 59, 258, 81, 265, 266, 267, 268, 269, 225, 227, 229, 231, 233, 235, 237, 239, 241, 243, 245, 82] rfl (by decide +kernel)
set_option maxRecDepth 100000 in
theorem gL_law_X7_put : GoodIn lw_tbl (wsV RL 18 RX7 yX7_put wsX7_put) := goodIn_app (goodIn_r _ [260, 261, 262, 58] rfl (by decide +kernel)) ggL_law_X7_put
set_option maxRecDepth 100000 in
theorem ggL_law_X8_put : GoodIn lw_tbl wsX8_put := goodIn_r _ [760, 753, 761, 654, 754, 755, 66, 756, 685, 687, 689, 691, 693, 695, 697, 699, 701, 703, 705, 707, 709, 711, 713, 715, 717, 719, 721, 723, 725, 727, 729, 731, 733, 735, 737, 739, 741, 743, 745] rfl (by decide +kernel)
set_option maxRecDepth 100000 in
theorem gL_law_X8_put : GoodIn lw_tbl (wsV RL 22 RX8 yX8_put wsX8_put) := goodIn_app (goodIn_r _ [757, 758, 759, 66] rfl (by decide +kernel)) ggL_law_X8_put
set_option maxRecDepth 100000 in
theorem ggL_law_X7_whole : GoodIn lw_tbl wsX7_whole := goodIn_r _ [273, 214, 279, 252, 253, 58, 254, 274, 275, 276, 59, 277, 278, 256, 257, 258, 81, 225, 227, 229, 231, 233, 235, 237, 239, 241, 243, 245, 82] rfl (by decide +kernel)
set_option maxRecDepth 100000 in
theorem gL_law_X7_whole : GoodIn lw_tbl (wsV RL 23 RX7 yX7_whole wsX7_whole) := goodIn_app (goodIn_r _ [270, 271, 272, 58] rfl (by decide +kernel)) ggL_law_X7_whole
set_option maxRecDepth 100000 in
theorem ggL_law_X8_whole : GoodIn lw_tbl wsX8_whole := goodIn_td 40 (goodIn_r _ [765, 753, 770, 754, 755, 66, 756, 766, 768, 26, 769, 654, 685, 687, 689, 691, 693, 695, 697, 699, 701, 703, 705, 707, 709, 711, 713, 715, 717, 719, 721, 723, 725, 727, 729, 731, 733, 735, 737, 739] rfl (by decide +kernel)) (goodIn_r _ [741, 743, 745] rfl (by decide +kernel))
set_option maxRecDepth 100000 in
theorem gL_law_X8_whole : GoodIn lw_tbl (wsV RL 27 RX8 yX8_whole wsX8_whole) := goodIn_app (goodIn_r _ [762, 763, 764, 66] rfl (by decide +kernel)) ggL_law_X8_whole
set_option maxRecDepth 100000 in
theorem ggL_law_X7_told : GoodIn lw_tbl wsX7_told := goodIn_r _ [283, 215, 93, 95, 97, 99, 100, 219, 221, 216, 157, 149, 223, 159, 279, 225, 227, 229, 231, 233, 235, 237, 239, 241, 243, 245, 102, 104, 106, 108, 110, 161, 163, 165, 167, 150, 152] rfl (by decide +kernel)
set_option maxRecDepth 100000 in
theorem gL_law_X7_told : GoodIn lw_tbl (wsV RL 28 RX7 yX7_told wsX7_told) := goodIn_app (goodIn_r _ [280, 281, 282, 58] rfl (by decide +kernel)) ggL_law_X7_told
set_option maxRecDepth 100000 in
theorem ggL_law_X8_told : GoodIn lw_tbl wsX8_told := goodIn_td 40 (goodIn_r _ [774, 655, 656, 657, 658, 659, 660, 661, 663, 664, 666, 770, 685, 687, 689, 691, 693, 695, 697, 699, 701, 703, 705, 707, 709, 711, 713, 715, 717, 719, 721, 723, 725, 727, 729, 731, 733, 735, 737, 739] rfl (by decide +kernel)) (goodIn_r _ [741, 743, 745] rfl (by decide +kernel))
set_option maxRecDepth 100000 in
theorem gL_law_X8_told : GoodIn lw_tbl (wsV RL 31 RX8 yX8_told wsX8_told) := goodIn_app (goodIn_r _ [771, 772, 773, 66] rfl (by decide +kernel)) ggL_law_X8_told
set_option maxRecDepth 100000 in
theorem ggL_law_X7_set : GoodIn lw_tbl wsX7_set := goodIn_r _ [287, 215, 93, 95, 97, 99, 100, 219, 288, 289, 58, 290, 291, 292, 293, 279, 225, 227, 229, 231, 233, 235, 237, 239, 241, 243, 245, 102, 104, 106, 108, 110] rfl (by decide +kernel)
set_option maxRecDepth 100000 in
theorem gL_law_X7_set : GoodIn lw_tbl (wsV RL 34 RX7 yX7_set wsX7_set) := goodIn_app (goodIn_r _ [284, 285, 286, 58] rfl (by decide +kernel)) ggL_law_X7_set
set_option maxRecDepth 100000 in
theorem ggL_law_X8_set : GoodIn lw_tbl wsX8_set := goodIn_td 40 (goodIn_r _ [778, 779, 780, 753, 781, 655, 656, 657, 658, 659, 660, 754, 755, 66, 756, 685, 687, 689, 691, 693, 695, 697, 699, 701, 703, 705, 707, 709, 711, 713, 715, 717, 719, 721, 723, 725, 727, 729, 731, 733] rfl (by decide +kernel)) (goodIn_r _ [735, 737, 739, 741, 743, 745] rfl (by decide +kernel))
set_option maxRecDepth 100000 in
theorem gL_law_X8_set : GoodIn lw_tbl (wsV RL 38 RX8 yX8_set wsX8_set) := goodIn_app (goodIn_r _ [775, 776, 777, 66] rfl (by decide +kernel)) ggL_law_X8_set
set_option maxRecDepth 100000 in
theorem ggL_law_X7_turn : GoodIn lw_tbl wsX7_turn := goodIn_r _ [297, 222, 298, 299, 58, 300, 225, 227, 229, 231, 233, 235, 237, 239, 241, 243, 245] rfl (by decide +kernel)
set_option maxRecDepth 100000 in
theorem gL_law_X7_turn : GoodIn lw_tbl (wsV RL 39 RX7 yX7_turn wsX7_turn) := goodIn_app (goodIn_r _ [294, 295, 296, 58] rfl (by decide +kernel)) ggL_law_X7_turn
set_option maxRecDepth 100000 in
theorem ggL_law_X8_turn : GoodIn lw_tbl wsX8_turn := goodIn_r _ [785, 786, 662, 754, 755, 66, 756, 685, 687, 689, 691, 693, 695, 697, 699, 701, 703, 705, 707, 709, 711, 713, 715, 717, 719, 721, 723, 725, 727, 729, 731, 733, 735, 737, 739, 741, 743, 745] rfl (by decide +kernel)
set_option maxRecDepth 100000 in
theorem gL_law_X8_turn : GoodIn lw_tbl (wsV RL 43 RX8 yX8_turn wsX8_turn) := goodIn_app (goodIn_r _ [782, 783, 784, 66] rfl (by decide +kernel)) ggL_law_X8_turn
set_option maxRecDepth 100000 in
theorem ggL_law_X7_run : GoodIn lw_tbl wsX7_run := goodIn_td 40 (goodIn_r _ [304, 223, 305, 307, 0, 58, 308, 214, 219, 220, 216, 224, 255, 256, 257, 59, 258, 81, 253, 254, 309, 311, 1, 312, 313, 314, 315, 316, 318, 2, 319, 215, 320, 322, 3, 323, 324, 326, 4, 327] rfl (by decide +kernel)) (goodIn_td 40 (goodIn_r _ [100, 93, 95, 328, 329, 330, 60, 331, 92, 94, 333, 334, 292, 335, 336, 337, 338, 339, 340, 341, 342, 344, 343, 266, 267, 268, 269, 345, 347, 5, 348, 349, 350, 351, 352, 353, 275, 276, 277, 278] rfl (by decide +kernel)) (goodIn_td 40 (goodIn_r _ [265, 354, 355, 356, 357, 96, 98, 358, 359, 360, 361, 362, 364, 6, 365, 366, 101, 367, 368, 369, 370, 371, 372, 373, 374, 375, 376, 377, 378, 379, 380, 381, 382, 383, 384, 385, 386, 387, 388, 389] rfl (by decide +kernel)) (goodIn_td 40 (goodIn_r _ [390, 391, 61, 392, 158, 393, 394, 395, 396, 155, 397, 399, 7, 400, 160, 405, 401, 403, 8, 404, 406, 407, 408, 62, 409, 130, 127, 126, 410, 412, 9, 413, 418, 131, 414, 415, 416, 417, 419, 420] rfl (by decide +kernel)) (goodIn_td 40 (goodIn_r _ [421, 422, 156, 423, 424, 425, 63, 426, 148, 427, 429, 10, 430, 221, 222, 298, 299, 300, 431, 433, 11, 434, 159, 474, 435, 436, 437, 438, 439, 440, 441, 442, 443, 444, 445, 446, 147, 447, 448, 449] rfl (by decide +kernel)) (goodIn_td 40 (goodIn_r _ [450, 451, 460, 452, 453, 454, 455, 456, 457, 458, 459, 461, 462, 463, 464, 469, 465, 466, 467, 468, 470, 471, 472, 473, 475, 476, 477, 478, 479, 481, 12, 482, 483, 485, 13, 486, 487, 489, 14, 490] rfl (by decide +kernel)) (goodIn_r _ [491, 492, 493, 494, 496, 15, 497, 498, 499, 500, 501, 225, 227, 229, 231, 233, 235, 237, 239, 241, 243, 245, 82, 102, 104, 106, 108, 110, 161, 163, 165, 167, 133, 135, 137, 150, 152] rfl (by decide +kernel)))))))
set_option maxRecDepth 100000 in
theorem gL_law_X7_run : GoodIn lw_tbl (wsV RL 44 RX7 yX7_run wsX7_run) := goodIn_app (goodIn_r _ [301, 302, 303, 58] rfl (by decide +kernel)) ggL_law_X7_run
set_option maxRecDepth 100000 in
theorem ggL_law_X8_run : GoodIn lw_tbl wsX8_run := goodIn_td 40 (goodIn_r _ [820, 821, 664, 754, 755, 66, 756, 822, 824, 28, 825, 665, 654, 660, 672, 673, 659, 655, 656, 826, 827, 828, 781, 829, 830, 831, 832, 834, 29, 835, 667, 666, 836, 838, 30, 839, 802, 840, 842, 31] rfl (by decide +kernel)) (goodIn_td 40 (goodIn_r _ [843, 670, 668, 669, 844, 846, 32, 847, 674, 675, 657, 658, 848, 850, 33, 851, 852, 780, 766, 768, 26, 769, 853, 855, 34, 856, 857, 859, 35, 860, 779, 861, 862, 863, 864, 866, 36, 867, 761, 868] rfl (by decide +kernel)) (goodIn_td 40 (goodIn_r _ [870, 37, 871, 872, 874, 38, 875, 876, 877, 879, 39, 880, 881, 882, 884, 40, 885, 886, 888, 41, 889, 890, 892, 42, 893, 894, 896, 43, 897, 898, 900, 44, 901, 902, 904, 45, 905, 671, 663, 796] rfl (by decide +kernel)) (goodIn_td 40 (goodIn_r _ [906, 908, 46, 909, 910, 912, 47, 913, 914, 916, 48, 917, 924, 925, 803, 918, 920, 49, 921, 922, 923, 661, 662, 685, 687, 689, 691, 693, 695, 697, 699, 701, 703, 705, 707, 709, 711, 713, 715, 717] rfl (by decide +kernel)) (goodIn_r _ [719, 721, 723, 725, 727, 729, 731, 733, 735, 737, 739, 741, 743, 745] rfl (by decide +kernel)))))
set_option maxRecDepth 100000 in
theorem gL_law_X8_run : GoodIn lw_tbl (wsV RL 47 RX8 yX8_run wsX8_run) := goodIn_app (goodIn_r _ [817, 818, 819, 66] rfl (by decide +kernel)) ggL_law_X8_run
set_option maxRecDepth 100000 in
theorem ggL_law_X7_step : GoodIn lw_tbl wsX7_step := goodIn_td 40 (goodIn_r _ [505, 223, 305, 307, 0, 58, 308, 214, 219, 220, 216, 224, 255, 256, 257, 59, 258, 81, 253, 254, 309, 311, 1, 312, 313, 314, 315, 316, 318, 2, 319, 215, 320, 322, 3, 323, 324, 326, 4, 327] rfl (by decide +kernel)) (goodIn_td 40 (goodIn_r _ [100, 93, 95, 328, 329, 330, 60, 331, 92, 94, 333, 334, 292, 335, 336, 337, 338, 339, 340, 341, 342, 344, 343, 266, 267, 268, 269, 345, 347, 5, 348, 349, 350, 351, 352, 353, 275, 276, 277, 278] rfl (by decide +kernel)) (goodIn_td 40 (goodIn_r _ [265, 354, 355, 356, 357, 96, 98, 358, 359, 360, 361, 362, 364, 6, 365, 366, 101, 367, 368, 369, 370, 371, 372, 373, 374, 375, 376, 377, 378, 379, 380, 381, 382, 383, 384, 385, 386, 387, 388, 389] rfl (by decide +kernel)) (goodIn_td 40 (goodIn_r _ [390, 391, 61, 392, 158, 393, 394, 395, 396, 155, 397, 399, 7, 400, 160, 405, 401, 403, 8, 404, 406, 407, 408, 62, 409, 130, 127, 126, 410, 412, 9, 413, 418, 131, 414, 415, 416, 417, 419, 420] rfl (by decide +kernel)) (goodIn_td 40 (goodIn_r _ [421, 422, 156, 423, 424, 425, 63, 426, 148, 427, 429, 10, 430, 221, 222, 298, 299, 300, 431, 433, 11, 434, 159, 474, 435, 436, 437, 438, 439, 440, 441, 442, 443, 444, 445, 446, 147, 447, 448, 449] rfl (by decide +kernel)) (goodIn_td 40 (goodIn_r _ [450, 451, 460, 452, 453, 454, 455, 456, 457, 458, 459, 461, 462, 463, 464, 469, 465, 466, 467, 468, 470, 471, 472, 473, 475, 476, 477, 478, 479, 481, 12, 482, 483, 485, 13, 486, 487, 489, 14, 490] rfl (by decide +kernel)) (goodIn_r _ [491, 492, 493, 494, 496, 15, 497, 498, 499, 500, 501, 225, 227, 229, 231, 233, 235, 237, 239, 241, 243, 245, 82, 102, 104, 106, 108, 110, 161, 163, 165, 167, 133, 135, 137, 150, 152] rfl (by decide +kernel)))))))
set_option maxRecDepth 100000 in
theorem gL_law_X7_step : GoodIn lw_tbl (wsV RL 48 RX7 yX7_step wsX7_step) := goodIn_app (goodIn_r _ [502, 503, 504, 58] rfl (by decide +kernel)) ggL_law_X7_step
set_option maxRecDepth 100000 in
theorem ggL_law_X8_step : GoodIn lw_tbl wsX8_step := goodIn_td 40 (goodIn_r _ [929, 664, 822, 824, 28, 66, 825, 665, 654, 660, 672, 673, 659, 655, 656, 826, 827, 828, 781, 829, 830, 831, 754, 755, 756, 832, 834, 29, 835, 667, 666, 836, 838, 30, 839, 802, 840, 842, 31, 843] rfl (by decide +kernel)) (goodIn_td 40 (goodIn_r _ [670, 668, 669, 844, 846, 32, 847, 674, 675, 657, 658, 848, 850, 33, 851, 852, 780, 766, 768, 26, 769, 853, 855, 34, 856, 857, 859, 35, 860, 779, 861, 862, 863, 864, 866, 36, 867, 761, 868, 870] rfl (by decide +kernel)) (goodIn_td 40 (goodIn_r _ [37, 871, 872, 874, 38, 875, 876, 877, 879, 39, 880, 881, 882, 884, 40, 885, 886, 888, 41, 889, 890, 892, 42, 893, 894, 896, 43, 897, 898, 900, 44, 901, 902, 904, 45, 905, 671, 663, 796, 906] rfl (by decide +kernel)) (goodIn_td 40 (goodIn_r _ [908, 46, 909, 910, 912, 47, 913, 914, 916, 48, 917, 924, 925, 803, 918, 920, 49, 921, 922, 923, 661, 662, 685, 687, 689, 691, 693, 695, 697, 699, 701, 703, 705, 707, 709, 711, 713, 715, 717, 719] rfl (by decide +kernel)) (goodIn_r _ [721, 723, 725, 727, 729, 731, 733, 735, 737, 739, 741, 743, 745] rfl (by decide +kernel)))))
set_option maxRecDepth 100000 in
theorem gL_law_X8_step : GoodIn lw_tbl (wsV RL 52 RX8 yX8_step wsX8_step) := goodIn_app (goodIn_r _ [926, 927, 928, 66] rfl (by decide +kernel)) ggL_law_X8_step
set_option maxRecDepth 100000 in
theorem ggL_law_X7_acts : GoodIn lw_tbl wsX7_acts := goodIn_r _ [509, 224, 225, 227, 229, 231, 233, 235, 237, 239, 241, 243, 245] rfl (by decide +kernel)
set_option maxRecDepth 100000 in
theorem gL_law_X7_acts : GoodIn lw_tbl (wsV RL 53 RX7 yX7_acts wsX7_acts) := goodIn_app (goodIn_r _ [506, 507, 508, 58] rfl (by decide +kernel)) ggL_law_X7_acts
set_option maxRecDepth 100000 in
theorem ggL_law_X8_acts : GoodIn lw_tbl wsX8_acts := goodIn_r _ [933, 665, 685, 687, 689, 691, 693, 695, 697, 699, 701, 703, 705, 707, 709, 711, 713, 715, 717, 719, 721, 723, 725, 727, 729, 731, 733, 735, 737, 739, 741, 743, 745] rfl (by decide +kernel)
set_option maxRecDepth 100000 in
theorem gL_law_X8_acts : GoodIn lw_tbl (wsV RL 57 RX8 yX8_acts wsX8_acts) := goodIn_app (goodIn_r _ [930, 931, 932, 66] rfl (by decide +kernel)) ggL_law_X8_acts
set_option maxRecDepth 100000 in
theorem ggL_law_X7_item : GoodIn lw_tbl wsX7_item := goodIn_r _ [513, 216, 279, 514, 394, 395, 61, 396, 155, 515, 466, 467, 62, 468, 127, 126, 469, 225, 227, 229, 231, 233, 235, 237, 239, 241, 243, 245, 161, 163, 165, 167, 133, 135, 137] rfl (by decide +kernel)
set_option maxRecDepth 100000 in
theorem gL_law_X7_item : GoodIn lw_tbl (wsV RL 58 RX7 yX7_item wsX7_item) := goodIn_app (goodIn_r _ [510, 511, 512, 58] rfl (by decide +kernel)) ggL_law_X7_item
set_option maxRecDepth 100000 in
theorem ggL_law_X8_item : GoodIn lw_tbl wsX8_item := goodIn_td 40 (goodIn_r _ [790, 770, 669, 668, 796, 791, 793, 27, 66, 794, 795, 754, 755, 756, 685, 687, 689, 691, 693, 695, 697, 699, 701, 703, 705, 707, 709, 711, 713, 715, 717, 719, 721, 723, 725, 727, 729, 731, 733, 735] rfl (by decide +kernel)) (goodIn_r _ [737, 739, 741, 743, 745] rfl (by decide +kernel))
set_option maxRecDepth 100000 in
theorem gL_law_X8_item : GoodIn lw_tbl (wsV RL 62 RX8 yX8_item wsX8_item) := goodIn_app (goodIn_r _ [787, 788, 789, 66] rfl (by decide +kernel)) ggL_law_X8_item
set_option maxRecDepth 100000 in
theorem ggL_law_X7_lay : GoodIn lw_tbl wsX7_lay := goodIn_td 40 (goodIn_r _ [519, 216, 129, 514, 394, 395, 61, 396, 155, 520, 521, 58, 522, 523, 474, 524, 525, 526, 527, 62, 528, 127, 126, 225, 227, 229, 231, 233, 235, 237, 239, 241, 243, 245, 133, 135, 137, 161, 163, 165] rfl (by decide +kernel)) (goodIn_r _ [167] rfl (by decide +kernel))
set_option maxRecDepth 100000 in
theorem gL_law_X7_lay : GoodIn lw_tbl (wsV RL 63 RX7 yX7_lay wsX7_lay) := goodIn_app (goodIn_r _ [516, 517, 518, 58] rfl (by decide +kernel)) ggL_law_X7_lay
set_option maxRecDepth 100000 in
theorem ggL_law_X8_lay : GoodIn lw_tbl wsX8_lay := goodIn_td 40 (goodIn_r _ [800, 801, 802, 803, 669, 668, 791, 793, 27, 66, 794, 795, 754, 755, 756, 685, 687, 689, 691, 693, 695, 697, 699, 701, 703, 705, 707, 709, 711, 713, 715, 717, 719, 721, 723, 725, 727, 729, 731, 733] rfl (by decide +kernel)) (goodIn_r _ [735, 737, 739, 741, 743, 745] rfl (by decide +kernel))
set_option maxRecDepth 100000 in
theorem gL_law_X8_lay : GoodIn lw_tbl (wsV RL 66 RX8 yX8_lay wsX8_lay) := goodIn_app (goodIn_r _ [797, 798, 799, 66] rfl (by decide +kernel)) ggL_law_X8_lay
set_option maxRecDepth 100000 in
theorem ggL_law_X7_stands : GoodIn lw_tbl wsX7_stands := goodIn_r _ [532, 216, 132, 514, 394, 395, 61, 396, 155, 225, 227, 229, 231, 233, 235, 237, 239, 241, 243, 245, 133, 135, 137, 161, 163, 165, 167] rfl (by decide +kernel)
set_option maxRecDepth 100000 in
theorem gL_law_X7_stands : GoodIn lw_tbl (wsV RL 67 RX7 yX7_stands wsX7_stands) := goodIn_app (goodIn_r _ [529, 530, 531, 58] rfl (by decide +kernel)) ggL_law_X7_stands
set_option maxRecDepth 100000 in
theorem ggL_law_X8_stands : GoodIn lw_tbl wsX8_stands := goodIn_td 40 (goodIn_r _ [807, 670, 791, 793, 27, 66, 794, 795, 754, 755, 756, 685, 687, 689, 691, 693, 695, 697, 699, 701, 703, 705, 707, 709, 711, 713, 715, 717, 719, 721, 723, 725, 727, 729, 731, 733, 735, 737, 739, 741] rfl (by decide +kernel)) (goodIn_r _ [743, 745] rfl (by decide +kernel))
set_option maxRecDepth 100000 in
theorem gL_law_X8_stands : GoodIn lw_tbl (wsV RL 70 RX8 yX8_stands wsX8_stands) := goodIn_app (goodIn_r _ [804, 805, 806, 66] rfl (by decide +kernel)) ggL_law_X8_stands
set_option maxRecDepth 100000 in
theorem ggL_law_X7_blank : GoodIn lw_tbl wsX7_blank := goodIn_r _ [536, 216, 537, 538, 539, 61, 540, 128, 158, 160, 393, 394, 395, 396, 155, 541, 542, 543, 62, 544, 127, 130, 225, 227, 229, 231, 233, 235, 237, 239, 241, 243, 245, 133, 135, 137, 161, 163, 165, 167] rfl (by decide +kernel)
set_option maxRecDepth 100000 in
theorem gL_law_X7_blank : GoodIn lw_tbl (wsV RL 71 RX7 yX7_blank wsX7_blank) := goodIn_app (goodIn_r _ [533, 534, 535, 58] rfl (by decide +kernel)) ggL_law_X7_blank
set_option maxRecDepth 100000 in
theorem ggL_law_X8_blank : GoodIn lw_tbl wsX8_blank := goodIn_td 40 (goodIn_r _ [811, 669, 670, 667, 666, 791, 793, 27, 66, 794, 795, 754, 755, 756, 685, 687, 689, 691, 693, 695, 697, 699, 701, 703, 705, 707, 709, 711, 713, 715, 717, 719, 721, 723, 725, 727, 729, 731, 733, 735] rfl (by decide +kernel)) (goodIn_r _ [737, 739, 741, 743, 745] rfl (by decide +kernel))
set_option maxRecDepth 100000 in
theorem gL_law_X8_blank : GoodIn lw_tbl (wsV RL 74 RX8 yX8_blank wsX8_blank) := goodIn_app (goodIn_r _ [808, 809, 810, 66] rfl (by decide +kernel)) ggL_law_X8_blank
set_option maxRecDepth 100000 in
theorem ggL_law_X7_drum : GoodIn lw_tbl wsX7_drum := goodIn_r _ [548, 279, 216, 157, 549, 457, 458, 63, 459, 147, 225, 227, 229, 231, 233, 235, 237, 239, 241, 243, 245, 161, 163, 165, 167, 150, 152] rfl (by decide +kernel)
set_option maxRecDepth 100000 in
theorem gL_law_X7_drum : GoodIn lw_tbl (wsV RL 75 RX7 yX7_drum wsX7_drum) := goodIn_app (goodIn_r _ [545, 546, 547, 58] rfl (by decide +kernel)) ggL_law_X7_drum
set_option maxRecDepth 100000 in
theorem ggL_law_X8_drum : GoodIn lw_tbl wsX8_drum := goodIn_r _ [815, 816, 671, 770, 754, 755, 66, 756, 685, 687, 689, 691, 693, 695, 697, 699, 701, 703, 705, 707, 709, 711, 713, 715, 717, 719, 721, 723, 725, 727, 729, 731, 733, 735, 737, 739, 741, 743, 745] rfl (by decide +kernel)
set_option maxRecDepth 100000 in
theorem gL_law_X8_drum : GoodIn lw_tbl (wsV RL 78 RX8 yX8_drum wsX8_drum) := goodIn_app (goodIn_r _ [812, 813, 814, 66] rfl (by decide +kernel)) ggL_law_X8_drum
set_option maxRecDepth 100000 in
theorem ggL_law_X7_feed : GoodIn lw_tbl wsX7_feed := goodIn_r _ [553, 217, 178, 554, 555, 556, 64, 557, 177, 176, 225, 227, 229, 231, 233, 235, 237, 239, 241, 243, 245, 185, 187, 189, 191, 193, 195, 197] rfl (by decide +kernel)
set_option maxRecDepth 100000 in
theorem gL_law_X7_feed : GoodIn lw_tbl (wsV RL 79 RX7 yX7_feed wsX7_feed) := goodIn_app (goodIn_r _ [550, 551, 552, 58] rfl (by decide +kernel)) ggL_law_X7_feed
set_option maxRecDepth 100000 in
theorem ggL_law_X8_feed : GoodIn lw_tbl wsX8_feed := goodIn_r _ [937, 938, 677, 676, 754, 755, 66, 756, 685, 687, 689, 691, 693, 695, 697, 699, 701, 703, 705, 707, 709, 711, 713, 715, 717, 719, 721, 723, 725, 727, 729, 731, 733, 735, 737, 739, 741, 743, 745] rfl (by decide +kernel)
set_option maxRecDepth 100000 in
theorem gL_law_X8_feed : GoodIn lw_tbl (wsV RL 83 RX8 yX8_feed wsX8_feed) := goodIn_app (goodIn_r _ [934, 935, 936, 66] rfl (by decide +kernel)) ggL_law_X8_feed
set_option maxRecDepth 100000 in
theorem ggL_law_X7_load : GoodIn lw_tbl wsX7_load := goodIn_td 40 (goodIn_r _ [561, 217, 214, 180, 178, 562, 563, 564, 64, 565, 181, 179, 177, 566, 568, 16, 569, 570, 182, 183, 604, 184, 606, 607, 608, 571, 573, 17, 574, 582, 583, 575, 577, 18, 578, 176, 579, 580, 581, 584] rfl (by decide +kernel)) (goodIn_td 40 (goodIn_r _ [586, 19, 587, 588, 589, 590, 591, 592, 594, 20, 595, 596, 598, 21, 599, 600, 602, 22, 603, 333, 58, 334, 292, 609, 611, 23, 612, 613, 340, 341, 59, 342, 344, 343, 266, 267, 268, 81, 269, 253] rfl (by decide +kernel)) (goodIn_r _ [254, 614, 615, 225, 227, 229, 231, 233, 235, 237, 239, 241, 243, 245, 185, 187, 189, 191, 193, 195, 197, 82] rfl (by decide +kernel)))
set_option maxRecDepth 100000 in
theorem gL_law_X7_load : GoodIn lw_tbl (wsV RL 84 RX7 yX7_load wsX7_load) := goodIn_app (goodIn_r _ [558, 559, 560, 58] rfl (by decide +kernel)) ggL_law_X7_load
set_option maxRecDepth 100000 in
theorem ggL_law_X8_load : GoodIn lw_tbl wsX8_load := goodIn_td 40 (goodIn_r _ [942, 678, 679, 677, 682, 680, 681, 654, 943, 945, 50, 66, 946, 947, 852, 971, 972, 973, 948, 950, 51, 951, 962, 960, 952, 954, 52, 955, 961, 956, 958, 53, 959, 676, 754, 755, 756, 963, 965, 54] rfl (by decide +kernel)) (goodIn_td 40 (goodIn_r _ [966, 967, 969, 55, 970, 868, 870, 37, 871, 761, 685, 687, 689, 691, 693, 695, 697, 699, 701, 703, 705, 707, 709, 711, 713, 715, 717, 719, 721, 723, 725, 727, 729, 731, 733, 735, 737, 739, 741, 743] rfl (by decide +kernel)) (goodIn_r _ [745] rfl (by decide +kernel)))
set_option maxRecDepth 100000 in
theorem gL_law_X8_load : GoodIn lw_tbl (wsV RL 87 RX8 yX8_load wsX8_load) := goodIn_app (goodIn_r _ [939, 940, 941, 66] rfl (by decide +kernel)) ggL_law_X8_load
set_option maxRecDepth 100000 in
theorem ggL_law_X7_written : GoodIn lw_tbl wsX7_written := goodIn_td 40 (goodIn_r _ [619, 218, 214, 252, 253, 58, 254, 255, 256, 257, 59, 258, 81, 620, 621, 622, 65, 623, 208, 624, 626, 24, 627, 628, 630, 25, 631, 207, 632, 633, 634, 635, 225, 227, 229, 231, 233, 235, 237, 239] rfl (by decide +kernel)) (goodIn_r _ [241, 243, 245, 82, 209, 211] rfl (by decide +kernel))
set_option maxRecDepth 100000 in
theorem gL_law_X7_written : GoodIn lw_tbl (wsV RL 88 RX7 yX7_written wsX7_written) := goodIn_app (goodIn_r _ [616, 617, 618, 58] rfl (by decide +kernel)) ggL_law_X7_written
set_option maxRecDepth 100000 in
theorem ggL_law_X8_written : GoodIn lw_tbl wsX8_written := goodIn_td 40 (goodIn_r _ [977, 753, 684, 683, 654, 754, 755, 66, 756, 978, 980, 56, 981, 685, 687, 689, 691, 693, 695, 697, 699, 701, 703, 705, 707, 709, 711, 713, 715, 717, 719, 721, 723, 725, 727, 729, 731, 733, 735, 737] rfl (by decide +kernel)) (goodIn_r _ [739, 741, 743, 745] rfl (by decide +kernel))
set_option maxRecDepth 100000 in
theorem gL_law_X8_written : GoodIn lw_tbl (wsV RL 91 RX8 yX8_written wsX8_written) := goodIn_app (goodIn_r _ [974, 975, 976, 66] rfl (by decide +kernel)) ggL_law_X8_written
set_option maxRecDepth 100000 in
theorem ggL_law_X7_digest : GoodIn lw_tbl wsX7_digest := goodIn_td 40 (goodIn_r _ [639, 640, 641, 214, 216, 157, 255, 256, 257, 59, 258, 81, 253, 58, 254, 642, 281, 282, 283, 215, 93, 95, 97, 99, 100, 219, 221, 149, 223, 159, 279, 514, 394, 395, 61, 396, 155, 643, 644, 645] rfl (by decide +kernel)) (goodIn_td 40 (goodIn_r _ [62, 646, 647, 127, 130, 465, 466, 467, 468, 126, 469, 549, 457, 458, 63, 459, 147, 225, 227, 229, 231, 233, 235, 237, 239, 241, 243, 245, 161, 163, 165, 167, 82, 102, 104, 106, 108, 110, 150, 152] rfl (by decide +kernel)) (goodIn_r _ [133, 135, 137] rfl (by decide +kernel)))
set_option maxRecDepth 100000 in
theorem gL_law_X7_digest : GoodIn lw_tbl (wsV RL 92 RX7 yX7_digest wsX7_digest) := goodIn_app (goodIn_r _ [636, 637, 638, 58] rfl (by decide +kernel)) ggL_law_X7_digest
set_option maxRecDepth 100000 in
theorem ggL_law_X8_digest : GoodIn lw_tbl wsX8_digest := goodIn_td 40 (goodIn_r _ [985, 986, 987, 654, 669, 670, 668, 671, 988, 772, 773, 66, 774, 655, 656, 657, 658, 659, 660, 661, 663, 664, 666, 770, 685, 687, 689, 691, 693, 695, 697, 699, 701, 703, 705, 707, 709, 711, 713, 715] rfl (by decide +kernel)) (goodIn_r _ [717, 719, 721, 723, 725, 727, 729, 731, 733, 735, 737, 739, 741, 743, 745] rfl (by decide +kernel))
set_option maxRecDepth 100000 in
theorem gL_law_X8_digest : GoodIn lw_tbl (wsV RL 95 RX8 yX8_digest wsX8_digest) := goodIn_app (goodIn_r _ [982, 983, 984, 66] rfl (by decide +kernel)) ggL_law_X8_digest
theorem dL_law_0 : decode cL_law 0 = .ok (.new 7, 3) := by decide +kernel
theorem dL_law_3 : decode cL_law 3 = .ok (.dup, 1) := by decide +kernel
theorem dL_law_4 : decode cL_law 4 = .ok (.invokespecial 9, 3) := by decide +kernel
theorem dL_law_7 : decode cL_law 7 = .ok (.astore_n 1, 1) := by decide +kernel
theorem dL_law_8 : decode cL_law 8 = .ok (.new 10, 3) := by decide +kernel
theorem dL_law_11 : decode cL_law 11 = .ok (.dup, 1) := by decide +kernel
theorem dL_law_12 : decode cL_law 12 = .ok (.invokespecial 12, 3) := by decide +kernel
theorem dL_law_15 : decode cL_law 15 = .ok (.astore_n 2, 1) := by decide +kernel
theorem dL_law_16 : decode cL_law 16 = .ok (.iconst 0, 1) := by decide +kernel
theorem dL_law_17 : decode cL_law 17 = .ok (.istore_n 3, 1) := by decide +kernel
theorem dL_law_18 : decode cL_law 18 = .ok (.iload_n 3, 1) := by decide +kernel
theorem dL_law_19 : decode cL_law 19 = .ok (.aload_n 0, 1) := by decide +kernel
theorem dL_law_20 : decode cL_law 20 = .ok (.arraylength, 1) := by decide +kernel
theorem dL_law_21 : decode cL_law 21 = .ok (.iconst 4, 1) := by decide +kernel
theorem dL_law_22 : decode cL_law 22 = .ok (.isub, 1) := by decide +kernel
theorem dL_law_23 : decode cL_law 23 = .ok (.if_icmp .gt 653, 3) := by decide +kernel
theorem dL_law_26 : decode cL_law 26 = .ok (.aload_n 0, 1) := by decide +kernel
theorem dL_law_27 : decode cL_law 27 = .ok (.iload_n 3, 1) := by decide +kernel
theorem dL_law_28 : decode cL_law 28 = .ok (.iaload, 1) := by decide +kernel
theorem dL_law_29 : decode cL_law 29 = .ok (.bipush 31, 2) := by decide +kernel
theorem dL_law_31 : decode cL_law 31 = .ok (.iand, 1) := by decide +kernel
theorem dL_law_32 : decode cL_law 32 = .ok (.tableswitch 638 0 17 #[88, 111, 144, 167, 190, 253, 302, 325, 338, 351, 384, 447, 470, 493, 516, 579, 592, 625], 88) := by decide +kernel
theorem dL_law_120 : decode cL_law 120 = .ok (.aload_n 1, 1) := by decide +kernel
theorem dL_law_121 : decode cL_law 121 = .ok (.aload_n 0, 1) := by decide +kernel
theorem dL_law_122 : decode cL_law 122 = .ok (.iload_n 3, 1) := by decide +kernel
theorem dL_law_123 : decode cL_law 123 = .ok (.iconst 1, 1) := by decide +kernel
theorem dL_law_124 : decode cL_law 124 = .ok (.iadd, 1) := by decide +kernel
theorem dL_law_125 : decode cL_law 125 = .ok (.iaload, 1) := by decide +kernel
theorem dL_law_126 : decode cL_law 126 = .ok (.invokevirtual 13, 3) := by decide +kernel
theorem dL_law_129 : decode cL_law 129 = .ok (.pop, 1) := by decide +kernel
theorem dL_law_130 : decode cL_law 130 = .ok (.aload_n 2, 1) := by decide +kernel
theorem dL_law_131 : decode cL_law 131 = .ok (.aload_n 0, 1) := by decide +kernel
theorem dL_law_132 : decode cL_law 132 = .ok (.iload_n 3, 1) := by decide +kernel
theorem dL_law_133 : decode cL_law 133 = .ok (.iconst 1, 1) := by decide +kernel
theorem dL_law_134 : decode cL_law 134 = .ok (.iadd, 1) := by decide +kernel
theorem dL_law_135 : decode cL_law 135 = .ok (.iaload, 1) := by decide +kernel
theorem dL_law_136 : decode cL_law 136 = .ok (.invokevirtual 17, 3) := by decide +kernel
theorem dL_law_139 : decode cL_law 139 = .ok (.pop, 1) := by decide +kernel
theorem dL_law_140 : decode cL_law 140 = .ok (.goto 530, 3) := by decide +kernel
theorem dL_law_143 : decode cL_law 143 = .ok (.aload_n 1, 1) := by decide +kernel
theorem dL_law_144 : decode cL_law 144 = .ok (.aload_n 0, 1) := by decide +kernel
theorem dL_law_145 : decode cL_law 145 = .ok (.iload_n 3, 1) := by decide +kernel
theorem dL_law_146 : decode cL_law 146 = .ok (.iconst 1, 1) := by decide +kernel
theorem dL_law_147 : decode cL_law 147 = .ok (.iadd, 1) := by decide +kernel
theorem dL_law_148 : decode cL_law 148 = .ok (.iaload, 1) := by decide +kernel
theorem dL_law_149 : decode cL_law 149 = .ok (.aload_n 0, 1) := by decide +kernel
theorem dL_law_150 : decode cL_law 150 = .ok (.iload_n 3, 1) := by decide +kernel
theorem dL_law_151 : decode cL_law 151 = .ok (.iconst 2, 1) := by decide +kernel
theorem dL_law_152 : decode cL_law 152 = .ok (.iadd, 1) := by decide +kernel
theorem dL_law_153 : decode cL_law 153 = .ok (.iaload, 1) := by decide +kernel
theorem dL_law_154 : decode cL_law 154 = .ok (.invokevirtual 18, 3) := by decide +kernel
theorem dL_law_157 : decode cL_law 157 = .ok (.pop, 1) := by decide +kernel
theorem dL_law_158 : decode cL_law 158 = .ok (.aload_n 2, 1) := by decide +kernel
theorem dL_law_159 : decode cL_law 159 = .ok (.aload_n 0, 1) := by decide +kernel
theorem dL_law_160 : decode cL_law 160 = .ok (.iload_n 3, 1) := by decide +kernel
theorem dL_law_161 : decode cL_law 161 = .ok (.iconst 1, 1) := by decide +kernel
theorem dL_law_162 : decode cL_law 162 = .ok (.iadd, 1) := by decide +kernel
theorem dL_law_163 : decode cL_law 163 = .ok (.iaload, 1) := by decide +kernel
theorem dL_law_164 : decode cL_law 164 = .ok (.aload_n 0, 1) := by decide +kernel
theorem dL_law_165 : decode cL_law 165 = .ok (.iload_n 3, 1) := by decide +kernel
theorem dL_law_166 : decode cL_law 166 = .ok (.iconst 2, 1) := by decide +kernel
theorem dL_law_167 : decode cL_law 167 = .ok (.iadd, 1) := by decide +kernel
theorem dL_law_168 : decode cL_law 168 = .ok (.iaload, 1) := by decide +kernel
theorem dL_law_169 : decode cL_law 169 = .ok (.invokevirtual 22, 3) := by decide +kernel
theorem dL_law_172 : decode cL_law 172 = .ok (.pop, 1) := by decide +kernel
theorem dL_law_173 : decode cL_law 173 = .ok (.goto 497, 3) := by decide +kernel
theorem dL_law_176 : decode cL_law 176 = .ok (.aload_n 1, 1) := by decide +kernel
theorem dL_law_177 : decode cL_law 177 = .ok (.aload_n 0, 1) := by decide +kernel
theorem dL_law_178 : decode cL_law 178 = .ok (.iload_n 3, 1) := by decide +kernel
theorem dL_law_179 : decode cL_law 179 = .ok (.iconst 1, 1) := by decide +kernel
theorem dL_law_180 : decode cL_law 180 = .ok (.iadd, 1) := by decide +kernel
theorem dL_law_181 : decode cL_law 181 = .ok (.iaload, 1) := by decide +kernel
theorem dL_law_182 : decode cL_law 182 = .ok (.invokevirtual 23, 3) := by decide +kernel
theorem dL_law_185 : decode cL_law 185 = .ok (.pop2, 1) := by decide +kernel
theorem dL_law_186 : decode cL_law 186 = .ok (.aload_n 2, 1) := by decide +kernel
theorem dL_law_187 : decode cL_law 187 = .ok (.aload_n 0, 1) := by decide +kernel
theorem dL_law_188 : decode cL_law 188 = .ok (.iload_n 3, 1) := by decide +kernel
theorem dL_law_189 : decode cL_law 189 = .ok (.iconst 1, 1) := by decide +kernel
theorem dL_law_190 : decode cL_law 190 = .ok (.iadd, 1) := by decide +kernel
theorem dL_law_191 : decode cL_law 191 = .ok (.iaload, 1) := by decide +kernel
theorem dL_law_192 : decode cL_law 192 = .ok (.invokevirtual 27, 3) := by decide +kernel
theorem dL_law_195 : decode cL_law 195 = .ok (.pop2, 1) := by decide +kernel
theorem dL_law_196 : decode cL_law 196 = .ok (.goto 474, 3) := by decide +kernel
theorem dL_law_199 : decode cL_law 199 = .ok (.aload_n 1, 1) := by decide +kernel
theorem dL_law_200 : decode cL_law 200 = .ok (.aload_n 0, 1) := by decide +kernel
theorem dL_law_201 : decode cL_law 201 = .ok (.iload_n 3, 1) := by decide +kernel
theorem dL_law_202 : decode cL_law 202 = .ok (.iconst 1, 1) := by decide +kernel
theorem dL_law_203 : decode cL_law 203 = .ok (.iadd, 1) := by decide +kernel
theorem dL_law_204 : decode cL_law 204 = .ok (.iaload, 1) := by decide +kernel
theorem dL_law_205 : decode cL_law 205 = .ok (.invokevirtual 28, 3) := by decide +kernel
theorem dL_law_208 : decode cL_law 208 = .ok (.pop2, 1) := by decide +kernel
theorem dL_law_209 : decode cL_law 209 = .ok (.aload_n 2, 1) := by decide +kernel
theorem dL_law_210 : decode cL_law 210 = .ok (.aload_n 0, 1) := by decide +kernel
theorem dL_law_211 : decode cL_law 211 = .ok (.iload_n 3, 1) := by decide +kernel
theorem dL_law_212 : decode cL_law 212 = .ok (.iconst 1, 1) := by decide +kernel
theorem dL_law_213 : decode cL_law 213 = .ok (.iadd, 1) := by decide +kernel
theorem dL_law_214 : decode cL_law 214 = .ok (.iaload, 1) := by decide +kernel
theorem dL_law_215 : decode cL_law 215 = .ok (.invokevirtual 31, 3) := by decide +kernel
theorem dL_law_218 : decode cL_law 218 = .ok (.pop2, 1) := by decide +kernel
theorem dL_law_219 : decode cL_law 219 = .ok (.goto 451, 3) := by decide +kernel
theorem dL_law_222 : decode cL_law 222 = .ok (.aload_n 1, 1) := by decide +kernel
theorem dL_law_223 : decode cL_law 223 = .ok (.aload_n 0, 1) := by decide +kernel
theorem dL_law_224 : decode cL_law 224 = .ok (.iload_n 3, 1) := by decide +kernel
theorem dL_law_225 : decode cL_law 225 = .ok (.iconst 1, 1) := by decide +kernel
theorem dL_law_226 : decode cL_law 226 = .ok (.iadd, 1) := by decide +kernel
theorem dL_law_227 : decode cL_law 227 = .ok (.iaload, 1) := by decide +kernel
theorem dL_law_228 : decode cL_law 228 = .ok (.aload_n 0, 1) := by decide +kernel
theorem dL_law_229 : decode cL_law 229 = .ok (.iload_n 3, 1) := by decide +kernel
theorem dL_law_230 : decode cL_law 230 = .ok (.iconst 2, 1) := by decide +kernel
theorem dL_law_231 : decode cL_law 231 = .ok (.iadd, 1) := by decide +kernel
theorem dL_law_232 : decode cL_law 232 = .ok (.iaload, 1) := by decide +kernel
theorem dL_law_233 : decode cL_law 233 = .ok (.i2l, 1) := by decide +kernel
theorem dL_law_234 : decode cL_law 234 = .ok (.bipush 32, 2) := by decide +kernel
theorem dL_law_236 : decode cL_law 236 = .ok (.lshl, 1) := by decide +kernel
theorem dL_law_237 : decode cL_law 237 = .ok (.aload_n 0, 1) := by decide +kernel
theorem dL_law_238 : decode cL_law 238 = .ok (.iload_n 3, 1) := by decide +kernel
theorem dL_law_239 : decode cL_law 239 = .ok (.iconst 3, 1) := by decide +kernel
theorem dL_law_240 : decode cL_law 240 = .ok (.iadd, 1) := by decide +kernel
theorem dL_law_241 : decode cL_law 241 = .ok (.iaload, 1) := by decide +kernel
theorem dL_law_242 : decode cL_law 242 = .ok (.i2l, 1) := by decide +kernel
theorem dL_law_243 : decode cL_law 243 = .ok (.ldc2_w 32, 3) := by decide +kernel
theorem dL_law_246 : decode cL_law 246 = .ok (.land, 1) := by decide +kernel
theorem dL_law_247 : decode cL_law 247 = .ok (.lor, 1) := by decide +kernel
theorem dL_law_248 : decode cL_law 248 = .ok (.invokevirtual 34, 3) := by decide +kernel
theorem dL_law_251 : decode cL_law 251 = .ok (.pop, 1) := by decide +kernel
theorem dL_law_252 : decode cL_law 252 = .ok (.aload_n 2, 1) := by decide +kernel
theorem dL_law_253 : decode cL_law 253 = .ok (.aload_n 0, 1) := by decide +kernel
theorem dL_law_254 : decode cL_law 254 = .ok (.iload_n 3, 1) := by decide +kernel
theorem dL_law_255 : decode cL_law 255 = .ok (.iconst 1, 1) := by decide +kernel
theorem dL_law_256 : decode cL_law 256 = .ok (.iadd, 1) := by decide +kernel
theorem dL_law_257 : decode cL_law 257 = .ok (.iaload, 1) := by decide +kernel
theorem dL_law_258 : decode cL_law 258 = .ok (.aload_n 0, 1) := by decide +kernel
theorem dL_law_259 : decode cL_law 259 = .ok (.iload_n 3, 1) := by decide +kernel
theorem dL_law_260 : decode cL_law 260 = .ok (.iconst 2, 1) := by decide +kernel
theorem dL_law_261 : decode cL_law 261 = .ok (.iadd, 1) := by decide +kernel
theorem dL_law_262 : decode cL_law 262 = .ok (.iaload, 1) := by decide +kernel
theorem dL_law_263 : decode cL_law 263 = .ok (.i2l, 1) := by decide +kernel
theorem dL_law_264 : decode cL_law 264 = .ok (.bipush 32, 2) := by decide +kernel
theorem dL_law_266 : decode cL_law 266 = .ok (.lshl, 1) := by decide +kernel
theorem dL_law_267 : decode cL_law 267 = .ok (.aload_n 0, 1) := by decide +kernel
theorem dL_law_268 : decode cL_law 268 = .ok (.iload_n 3, 1) := by decide +kernel
theorem dL_law_269 : decode cL_law 269 = .ok (.iconst 3, 1) := by decide +kernel
theorem dL_law_270 : decode cL_law 270 = .ok (.iadd, 1) := by decide +kernel
theorem dL_law_271 : decode cL_law 271 = .ok (.iaload, 1) := by decide +kernel
theorem dL_law_272 : decode cL_law 272 = .ok (.i2l, 1) := by decide +kernel
theorem dL_law_273 : decode cL_law 273 = .ok (.ldc2_w 32, 3) := by decide +kernel
theorem dL_law_276 : decode cL_law 276 = .ok (.land, 1) := by decide +kernel
theorem dL_law_277 : decode cL_law 277 = .ok (.lor, 1) := by decide +kernel
theorem dL_law_278 : decode cL_law 278 = .ok (.invokevirtual 38, 3) := by decide +kernel
theorem dL_law_281 : decode cL_law 281 = .ok (.pop, 1) := by decide +kernel
theorem dL_law_282 : decode cL_law 282 = .ok (.goto 388, 3) := by decide +kernel
theorem dL_law_285 : decode cL_law 285 = .ok (.aload_n 1, 1) := by decide +kernel
theorem dL_law_286 : decode cL_law 286 = .ok (.aload_n 0, 1) := by decide +kernel
theorem dL_law_287 : decode cL_law 287 = .ok (.iload_n 3, 1) := by decide +kernel
theorem dL_law_288 : decode cL_law 288 = .ok (.iconst 1, 1) := by decide +kernel
theorem dL_law_289 : decode cL_law 289 = .ok (.iadd, 1) := by decide +kernel
theorem dL_law_290 : decode cL_law 290 = .ok (.iaload, 1) := by decide +kernel
theorem dL_law_291 : decode cL_law 291 = .ok (.aload_n 0, 1) := by decide +kernel
theorem dL_law_292 : decode cL_law 292 = .ok (.iload_n 3, 1) := by decide +kernel
theorem dL_law_293 : decode cL_law 293 = .ok (.iconst 2, 1) := by decide +kernel
theorem dL_law_294 : decode cL_law 294 = .ok (.iadd, 1) := by decide +kernel
theorem dL_law_295 : decode cL_law 295 = .ok (.iaload, 1) := by decide +kernel
theorem dL_law_296 : decode cL_law 296 = .ok (.ifCond .eq 7, 3) := by decide +kernel
theorem dL_law_299 : decode cL_law 299 = .ok (.iconst 1, 1) := by decide +kernel
theorem dL_law_300 : decode cL_law 300 = .ok (.goto 4, 3) := by decide +kernel
theorem dL_law_303 : decode cL_law 303 = .ok (.iconst 0, 1) := by decide +kernel
theorem dL_law_304 : decode cL_law 304 = .ok (.invokevirtual 39, 3) := by decide +kernel
theorem dL_law_307 : decode cL_law 307 = .ok (.pop, 1) := by decide +kernel
theorem dL_law_308 : decode cL_law 308 = .ok (.aload_n 2, 1) := by decide +kernel
theorem dL_law_309 : decode cL_law 309 = .ok (.aload_n 0, 1) := by decide +kernel
theorem dL_law_310 : decode cL_law 310 = .ok (.iload_n 3, 1) := by decide +kernel
theorem dL_law_311 : decode cL_law 311 = .ok (.iconst 1, 1) := by decide +kernel
theorem dL_law_312 : decode cL_law 312 = .ok (.iadd, 1) := by decide +kernel
theorem dL_law_313 : decode cL_law 313 = .ok (.iaload, 1) := by decide +kernel
theorem dL_law_314 : decode cL_law 314 = .ok (.aload_n 0, 1) := by decide +kernel
theorem dL_law_315 : decode cL_law 315 = .ok (.iload_n 3, 1) := by decide +kernel
theorem dL_law_316 : decode cL_law 316 = .ok (.iconst 2, 1) := by decide +kernel
theorem dL_law_317 : decode cL_law 317 = .ok (.iadd, 1) := by decide +kernel
theorem dL_law_318 : decode cL_law 318 = .ok (.iaload, 1) := by decide +kernel
theorem dL_law_319 : decode cL_law 319 = .ok (.ifCond .eq 7, 3) := by decide +kernel
theorem dL_law_322 : decode cL_law 322 = .ok (.iconst 1, 1) := by decide +kernel
theorem dL_law_323 : decode cL_law 323 = .ok (.goto 4, 3) := by decide +kernel
theorem dL_law_326 : decode cL_law 326 = .ok (.iconst 0, 1) := by decide +kernel
theorem dL_law_327 : decode cL_law 327 = .ok (.invokevirtual 43, 3) := by decide +kernel
theorem dL_law_330 : decode cL_law 330 = .ok (.pop, 1) := by decide +kernel
theorem dL_law_331 : decode cL_law 331 = .ok (.goto 339, 3) := by decide +kernel
theorem dL_law_334 : decode cL_law 334 = .ok (.aload_n 1, 1) := by decide +kernel
theorem dL_law_335 : decode cL_law 335 = .ok (.aload_n 0, 1) := by decide +kernel
theorem dL_law_336 : decode cL_law 336 = .ok (.iload_n 3, 1) := by decide +kernel
theorem dL_law_337 : decode cL_law 337 = .ok (.iconst 1, 1) := by decide +kernel
theorem dL_law_338 : decode cL_law 338 = .ok (.iadd, 1) := by decide +kernel
theorem dL_law_339 : decode cL_law 339 = .ok (.iaload, 1) := by decide +kernel
theorem dL_law_340 : decode cL_law 340 = .ok (.invokevirtual 44, 3) := by decide +kernel
theorem dL_law_343 : decode cL_law 343 = .ok (.pop, 1) := by decide +kernel
theorem dL_law_344 : decode cL_law 344 = .ok (.aload_n 2, 1) := by decide +kernel
theorem dL_law_345 : decode cL_law 345 = .ok (.aload_n 0, 1) := by decide +kernel
theorem dL_law_346 : decode cL_law 346 = .ok (.iload_n 3, 1) := by decide +kernel
theorem dL_law_347 : decode cL_law 347 = .ok (.iconst 1, 1) := by decide +kernel
theorem dL_law_348 : decode cL_law 348 = .ok (.iadd, 1) := by decide +kernel
theorem dL_law_349 : decode cL_law 349 = .ok (.iaload, 1) := by decide +kernel
theorem dL_law_350 : decode cL_law 350 = .ok (.invokevirtual 47, 3) := by decide +kernel
theorem dL_law_353 : decode cL_law 353 = .ok (.pop, 1) := by decide +kernel
theorem dL_law_354 : decode cL_law 354 = .ok (.goto 316, 3) := by decide +kernel
theorem dL_law_357 : decode cL_law 357 = .ok (.aload_n 1, 1) := by decide +kernel
theorem dL_law_358 : decode cL_law 358 = .ok (.invokevirtual 48, 3) := by decide +kernel
theorem dL_law_361 : decode cL_law 361 = .ok (.pop, 1) := by decide +kernel
theorem dL_law_362 : decode cL_law 362 = .ok (.aload_n 2, 1) := by decide +kernel
theorem dL_law_363 : decode cL_law 363 = .ok (.invokevirtual 52, 3) := by decide +kernel
theorem dL_law_366 : decode cL_law 366 = .ok (.pop, 1) := by decide +kernel
theorem dL_law_367 : decode cL_law 367 = .ok (.goto 303, 3) := by decide +kernel
theorem dL_law_370 : decode cL_law 370 = .ok (.aload_n 1, 1) := by decide +kernel
theorem dL_law_371 : decode cL_law 371 = .ok (.invokevirtual 53, 3) := by decide +kernel
theorem dL_law_374 : decode cL_law 374 = .ok (.pop2, 1) := by decide +kernel
theorem dL_law_375 : decode cL_law 375 = .ok (.aload_n 2, 1) := by decide +kernel
theorem dL_law_376 : decode cL_law 376 = .ok (.invokevirtual 57, 3) := by decide +kernel
theorem dL_law_379 : decode cL_law 379 = .ok (.pop2, 1) := by decide +kernel
theorem dL_law_380 : decode cL_law 380 = .ok (.goto 290, 3) := by decide +kernel
theorem dL_law_383 : decode cL_law 383 = .ok (.aload_n 1, 1) := by decide +kernel
theorem dL_law_384 : decode cL_law 384 = .ok (.aload_n 0, 1) := by decide +kernel
theorem dL_law_385 : decode cL_law 385 = .ok (.iload_n 3, 1) := by decide +kernel
theorem dL_law_386 : decode cL_law 386 = .ok (.iconst 1, 1) := by decide +kernel
theorem dL_law_387 : decode cL_law 387 = .ok (.iadd, 1) := by decide +kernel
theorem dL_law_388 : decode cL_law 388 = .ok (.iaload, 1) := by decide +kernel
theorem dL_law_389 : decode cL_law 389 = .ok (.aload_n 0, 1) := by decide +kernel
theorem dL_law_390 : decode cL_law 390 = .ok (.iload_n 3, 1) := by decide +kernel
theorem dL_law_391 : decode cL_law 391 = .ok (.iconst 2, 1) := by decide +kernel
theorem dL_law_392 : decode cL_law 392 = .ok (.iadd, 1) := by decide +kernel
theorem dL_law_393 : decode cL_law 393 = .ok (.iaload, 1) := by decide +kernel
theorem dL_law_394 : decode cL_law 394 = .ok (.invokevirtual 58, 3) := by decide +kernel
theorem dL_law_397 : decode cL_law 397 = .ok (.pop2, 1) := by decide +kernel
theorem dL_law_398 : decode cL_law 398 = .ok (.aload_n 2, 1) := by decide +kernel
theorem dL_law_399 : decode cL_law 399 = .ok (.aload_n 0, 1) := by decide +kernel
theorem dL_law_400 : decode cL_law 400 = .ok (.iload_n 3, 1) := by decide +kernel
theorem dL_law_401 : decode cL_law 401 = .ok (.iconst 1, 1) := by decide +kernel
theorem dL_law_402 : decode cL_law 402 = .ok (.iadd, 1) := by decide +kernel
theorem dL_law_403 : decode cL_law 403 = .ok (.iaload, 1) := by decide +kernel
theorem dL_law_404 : decode cL_law 404 = .ok (.aload_n 0, 1) := by decide +kernel
theorem dL_law_405 : decode cL_law 405 = .ok (.iload_n 3, 1) := by decide +kernel
theorem dL_law_406 : decode cL_law 406 = .ok (.iconst 2, 1) := by decide +kernel
theorem dL_law_407 : decode cL_law 407 = .ok (.iadd, 1) := by decide +kernel
theorem dL_law_408 : decode cL_law 408 = .ok (.iaload, 1) := by decide +kernel
theorem dL_law_409 : decode cL_law 409 = .ok (.invokevirtual 62, 3) := by decide +kernel
theorem dL_law_412 : decode cL_law 412 = .ok (.pop2, 1) := by decide +kernel
theorem dL_law_413 : decode cL_law 413 = .ok (.goto 257, 3) := by decide +kernel
theorem dL_law_416 : decode cL_law 416 = .ok (.aload_n 1, 1) := by decide +kernel
theorem dL_law_417 : decode cL_law 417 = .ok (.aload_n 0, 1) := by decide +kernel
theorem dL_law_418 : decode cL_law 418 = .ok (.iload_n 3, 1) := by decide +kernel
theorem dL_law_419 : decode cL_law 419 = .ok (.iconst 1, 1) := by decide +kernel
theorem dL_law_420 : decode cL_law 420 = .ok (.iadd, 1) := by decide +kernel
theorem dL_law_421 : decode cL_law 421 = .ok (.iaload, 1) := by decide +kernel
theorem dL_law_422 : decode cL_law 422 = .ok (.aload_n 0, 1) := by decide +kernel
theorem dL_law_423 : decode cL_law 423 = .ok (.iload_n 3, 1) := by decide +kernel
theorem dL_law_424 : decode cL_law 424 = .ok (.iconst 2, 1) := by decide +kernel
theorem dL_law_425 : decode cL_law 425 = .ok (.iadd, 1) := by decide +kernel
theorem dL_law_426 : decode cL_law 426 = .ok (.iaload, 1) := by decide +kernel
theorem dL_law_427 : decode cL_law 427 = .ok (.i2l, 1) := by decide +kernel
theorem dL_law_428 : decode cL_law 428 = .ok (.bipush 32, 2) := by decide +kernel
theorem dL_law_430 : decode cL_law 430 = .ok (.lshl, 1) := by decide +kernel
theorem dL_law_431 : decode cL_law 431 = .ok (.aload_n 0, 1) := by decide +kernel
theorem dL_law_432 : decode cL_law 432 = .ok (.iload_n 3, 1) := by decide +kernel
theorem dL_law_433 : decode cL_law 433 = .ok (.iconst 3, 1) := by decide +kernel
theorem dL_law_434 : decode cL_law 434 = .ok (.iadd, 1) := by decide +kernel
theorem dL_law_435 : decode cL_law 435 = .ok (.iaload, 1) := by decide +kernel
theorem dL_law_436 : decode cL_law 436 = .ok (.i2l, 1) := by decide +kernel
theorem dL_law_437 : decode cL_law 437 = .ok (.ldc2_w 32, 3) := by decide +kernel
theorem dL_law_440 : decode cL_law 440 = .ok (.land, 1) := by decide +kernel
theorem dL_law_441 : decode cL_law 441 = .ok (.lor, 1) := by decide +kernel
theorem dL_law_442 : decode cL_law 442 = .ok (.invokevirtual 63, 3) := by decide +kernel
theorem dL_law_445 : decode cL_law 445 = .ok (.pop, 1) := by decide +kernel
theorem dL_law_446 : decode cL_law 446 = .ok (.aload_n 2, 1) := by decide +kernel
theorem dL_law_447 : decode cL_law 447 = .ok (.aload_n 0, 1) := by decide +kernel
theorem dL_law_448 : decode cL_law 448 = .ok (.iload_n 3, 1) := by decide +kernel
theorem dL_law_449 : decode cL_law 449 = .ok (.iconst 1, 1) := by decide +kernel
theorem dL_law_450 : decode cL_law 450 = .ok (.iadd, 1) := by decide +kernel
theorem dL_law_451 : decode cL_law 451 = .ok (.iaload, 1) := by decide +kernel
theorem dL_law_452 : decode cL_law 452 = .ok (.aload_n 0, 1) := by decide +kernel
theorem dL_law_453 : decode cL_law 453 = .ok (.iload_n 3, 1) := by decide +kernel
theorem dL_law_454 : decode cL_law 454 = .ok (.iconst 2, 1) := by decide +kernel
theorem dL_law_455 : decode cL_law 455 = .ok (.iadd, 1) := by decide +kernel
theorem dL_law_456 : decode cL_law 456 = .ok (.iaload, 1) := by decide +kernel
theorem dL_law_457 : decode cL_law 457 = .ok (.i2l, 1) := by decide +kernel
theorem dL_law_458 : decode cL_law 458 = .ok (.bipush 32, 2) := by decide +kernel
theorem dL_law_460 : decode cL_law 460 = .ok (.lshl, 1) := by decide +kernel
theorem dL_law_461 : decode cL_law 461 = .ok (.aload_n 0, 1) := by decide +kernel
theorem dL_law_462 : decode cL_law 462 = .ok (.iload_n 3, 1) := by decide +kernel
theorem dL_law_463 : decode cL_law 463 = .ok (.iconst 3, 1) := by decide +kernel
theorem dL_law_464 : decode cL_law 464 = .ok (.iadd, 1) := by decide +kernel
theorem dL_law_465 : decode cL_law 465 = .ok (.iaload, 1) := by decide +kernel
theorem dL_law_466 : decode cL_law 466 = .ok (.i2l, 1) := by decide +kernel
theorem dL_law_467 : decode cL_law 467 = .ok (.ldc2_w 32, 3) := by decide +kernel
theorem dL_law_470 : decode cL_law 470 = .ok (.land, 1) := by decide +kernel
theorem dL_law_471 : decode cL_law 471 = .ok (.lor, 1) := by decide +kernel
theorem dL_law_472 : decode cL_law 472 = .ok (.invokevirtual 66, 3) := by decide +kernel
theorem dL_law_475 : decode cL_law 475 = .ok (.pop, 1) := by decide +kernel
theorem dL_law_476 : decode cL_law 476 = .ok (.goto 194, 3) := by decide +kernel
theorem dL_law_479 : decode cL_law 479 = .ok (.aload_n 1, 1) := by decide +kernel
theorem dL_law_480 : decode cL_law 480 = .ok (.aload_n 0, 1) := by decide +kernel
theorem dL_law_481 : decode cL_law 481 = .ok (.iload_n 3, 1) := by decide +kernel
theorem dL_law_482 : decode cL_law 482 = .ok (.iconst 1, 1) := by decide +kernel
theorem dL_law_483 : decode cL_law 483 = .ok (.iadd, 1) := by decide +kernel
theorem dL_law_484 : decode cL_law 484 = .ok (.iaload, 1) := by decide +kernel
theorem dL_law_485 : decode cL_law 485 = .ok (.invokevirtual 67, 3) := by decide +kernel
theorem dL_law_488 : decode cL_law 488 = .ok (.pop, 1) := by decide +kernel
theorem dL_law_489 : decode cL_law 489 = .ok (.aload_n 2, 1) := by decide +kernel
theorem dL_law_490 : decode cL_law 490 = .ok (.aload_n 0, 1) := by decide +kernel
theorem dL_law_491 : decode cL_law 491 = .ok (.iload_n 3, 1) := by decide +kernel
theorem dL_law_492 : decode cL_law 492 = .ok (.iconst 1, 1) := by decide +kernel
theorem dL_law_493 : decode cL_law 493 = .ok (.iadd, 1) := by decide +kernel
theorem dL_law_494 : decode cL_law 494 = .ok (.iaload, 1) := by decide +kernel
theorem dL_law_495 : decode cL_law 495 = .ok (.invokevirtual 70, 3) := by decide +kernel
theorem dL_law_498 : decode cL_law 498 = .ok (.pop, 1) := by decide +kernel
theorem dL_law_499 : decode cL_law 499 = .ok (.goto 171, 3) := by decide +kernel
theorem dL_law_502 : decode cL_law 502 = .ok (.aload_n 1, 1) := by decide +kernel
theorem dL_law_503 : decode cL_law 503 = .ok (.aload_n 0, 1) := by decide +kernel
theorem dL_law_504 : decode cL_law 504 = .ok (.iload_n 3, 1) := by decide +kernel
theorem dL_law_505 : decode cL_law 505 = .ok (.iconst 1, 1) := by decide +kernel
theorem dL_law_506 : decode cL_law 506 = .ok (.iadd, 1) := by decide +kernel
theorem dL_law_507 : decode cL_law 507 = .ok (.iaload, 1) := by decide +kernel
theorem dL_law_508 : decode cL_law 508 = .ok (.invokevirtual 71, 3) := by decide +kernel
theorem dL_law_511 : decode cL_law 511 = .ok (.pop, 1) := by decide +kernel
theorem dL_law_512 : decode cL_law 512 = .ok (.aload_n 2, 1) := by decide +kernel
theorem dL_law_513 : decode cL_law 513 = .ok (.aload_n 0, 1) := by decide +kernel
theorem dL_law_514 : decode cL_law 514 = .ok (.iload_n 3, 1) := by decide +kernel
theorem dL_law_515 : decode cL_law 515 = .ok (.iconst 1, 1) := by decide +kernel
theorem dL_law_516 : decode cL_law 516 = .ok (.iadd, 1) := by decide +kernel
theorem dL_law_517 : decode cL_law 517 = .ok (.iaload, 1) := by decide +kernel
theorem dL_law_518 : decode cL_law 518 = .ok (.invokevirtual 74, 3) := by decide +kernel
theorem dL_law_521 : decode cL_law 521 = .ok (.pop, 1) := by decide +kernel
theorem dL_law_522 : decode cL_law 522 = .ok (.goto 148, 3) := by decide +kernel
theorem dL_law_525 : decode cL_law 525 = .ok (.aload_n 1, 1) := by decide +kernel
theorem dL_law_526 : decode cL_law 526 = .ok (.aload_n 0, 1) := by decide +kernel
theorem dL_law_527 : decode cL_law 527 = .ok (.iload_n 3, 1) := by decide +kernel
theorem dL_law_528 : decode cL_law 528 = .ok (.iconst 1, 1) := by decide +kernel
theorem dL_law_529 : decode cL_law 529 = .ok (.iadd, 1) := by decide +kernel
theorem dL_law_530 : decode cL_law 530 = .ok (.iaload, 1) := by decide +kernel
theorem dL_law_531 : decode cL_law 531 = .ok (.invokevirtual 75, 3) := by decide +kernel
theorem dL_law_534 : decode cL_law 534 = .ok (.pop2, 1) := by decide +kernel
theorem dL_law_535 : decode cL_law 535 = .ok (.aload_n 2, 1) := by decide +kernel
theorem dL_law_536 : decode cL_law 536 = .ok (.aload_n 0, 1) := by decide +kernel
theorem dL_law_537 : decode cL_law 537 = .ok (.iload_n 3, 1) := by decide +kernel
theorem dL_law_538 : decode cL_law 538 = .ok (.iconst 1, 1) := by decide +kernel
theorem dL_law_539 : decode cL_law 539 = .ok (.iadd, 1) := by decide +kernel
theorem dL_law_540 : decode cL_law 540 = .ok (.iaload, 1) := by decide +kernel
theorem dL_law_541 : decode cL_law 541 = .ok (.invokevirtual 78, 3) := by decide +kernel
theorem dL_law_544 : decode cL_law 544 = .ok (.pop2, 1) := by decide +kernel
theorem dL_law_545 : decode cL_law 545 = .ok (.goto 125, 3) := by decide +kernel
theorem dL_law_548 : decode cL_law 548 = .ok (.aload_n 1, 1) := by decide +kernel
theorem dL_law_549 : decode cL_law 549 = .ok (.aload_n 0, 1) := by decide +kernel
theorem dL_law_550 : decode cL_law 550 = .ok (.iload_n 3, 1) := by decide +kernel
theorem dL_law_551 : decode cL_law 551 = .ok (.iconst 1, 1) := by decide +kernel
theorem dL_law_552 : decode cL_law 552 = .ok (.iadd, 1) := by decide +kernel
theorem dL_law_553 : decode cL_law 553 = .ok (.iaload, 1) := by decide +kernel
theorem dL_law_554 : decode cL_law 554 = .ok (.i2l, 1) := by decide +kernel
theorem dL_law_555 : decode cL_law 555 = .ok (.bipush 32, 2) := by decide +kernel
theorem dL_law_557 : decode cL_law 557 = .ok (.lshl, 1) := by decide +kernel
theorem dL_law_558 : decode cL_law 558 = .ok (.aload_n 0, 1) := by decide +kernel
theorem dL_law_559 : decode cL_law 559 = .ok (.iload_n 3, 1) := by decide +kernel
theorem dL_law_560 : decode cL_law 560 = .ok (.iconst 2, 1) := by decide +kernel
theorem dL_law_561 : decode cL_law 561 = .ok (.iadd, 1) := by decide +kernel
theorem dL_law_562 : decode cL_law 562 = .ok (.iaload, 1) := by decide +kernel
theorem dL_law_563 : decode cL_law 563 = .ok (.i2l, 1) := by decide +kernel
theorem dL_law_564 : decode cL_law 564 = .ok (.ldc2_w 32, 3) := by decide +kernel
theorem dL_law_567 : decode cL_law 567 = .ok (.land, 1) := by decide +kernel
theorem dL_law_568 : decode cL_law 568 = .ok (.lor, 1) := by decide +kernel
theorem dL_law_569 : decode cL_law 569 = .ok (.aload_n 0, 1) := by decide +kernel
theorem dL_law_570 : decode cL_law 570 = .ok (.iload_n 3, 1) := by decide +kernel
theorem dL_law_571 : decode cL_law 571 = .ok (.iconst 3, 1) := by decide +kernel
theorem dL_law_572 : decode cL_law 572 = .ok (.iadd, 1) := by decide +kernel
theorem dL_law_573 : decode cL_law 573 = .ok (.iaload, 1) := by decide +kernel
theorem dL_law_574 : decode cL_law 574 = .ok (.invokevirtual 79, 3) := by decide +kernel
theorem dL_law_577 : decode cL_law 577 = .ok (.aload_n 2, 1) := by decide +kernel
theorem dL_law_578 : decode cL_law 578 = .ok (.aload_n 0, 1) := by decide +kernel
theorem dL_law_579 : decode cL_law 579 = .ok (.iload_n 3, 1) := by decide +kernel
theorem dL_law_580 : decode cL_law 580 = .ok (.iconst 1, 1) := by decide +kernel
theorem dL_law_581 : decode cL_law 581 = .ok (.iadd, 1) := by decide +kernel
theorem dL_law_582 : decode cL_law 582 = .ok (.iaload, 1) := by decide +kernel
theorem dL_law_583 : decode cL_law 583 = .ok (.i2l, 1) := by decide +kernel
theorem dL_law_584 : decode cL_law 584 = .ok (.bipush 32, 2) := by decide +kernel
theorem dL_law_586 : decode cL_law 586 = .ok (.lshl, 1) := by decide +kernel
theorem dL_law_587 : decode cL_law 587 = .ok (.aload_n 0, 1) := by decide +kernel
theorem dL_law_588 : decode cL_law 588 = .ok (.iload_n 3, 1) := by decide +kernel
theorem dL_law_589 : decode cL_law 589 = .ok (.iconst 2, 1) := by decide +kernel
theorem dL_law_590 : decode cL_law 590 = .ok (.iadd, 1) := by decide +kernel
theorem dL_law_591 : decode cL_law 591 = .ok (.iaload, 1) := by decide +kernel
theorem dL_law_592 : decode cL_law 592 = .ok (.i2l, 1) := by decide +kernel
theorem dL_law_593 : decode cL_law 593 = .ok (.ldc2_w 32, 3) := by decide +kernel
theorem dL_law_596 : decode cL_law 596 = .ok (.land, 1) := by decide +kernel
theorem dL_law_597 : decode cL_law 597 = .ok (.lor, 1) := by decide +kernel
theorem dL_law_598 : decode cL_law 598 = .ok (.aload_n 0, 1) := by decide +kernel
theorem dL_law_599 : decode cL_law 599 = .ok (.iload_n 3, 1) := by decide +kernel
theorem dL_law_600 : decode cL_law 600 = .ok (.iconst 3, 1) := by decide +kernel
theorem dL_law_601 : decode cL_law 601 = .ok (.iadd, 1) := by decide +kernel
theorem dL_law_602 : decode cL_law 602 = .ok (.iaload, 1) := by decide +kernel
theorem dL_law_603 : decode cL_law 603 = .ok (.invokevirtual 83, 3) := by decide +kernel
theorem dL_law_606 : decode cL_law 606 = .ok (.if_icmp .eq 64, 3) := by decide +kernel
theorem dL_law_609 : decode cL_law 609 = .ok (.iconst 0, 1) := by decide +kernel
theorem dL_law_610 : decode cL_law 610 = .ok (.ireturn, 1) := by decide +kernel
theorem dL_law_611 : decode cL_law 611 = .ok (.aload_n 1, 1) := by decide +kernel
theorem dL_law_612 : decode cL_law 612 = .ok (.invokevirtual 84, 3) := by decide +kernel
theorem dL_law_615 : decode cL_law 615 = .ok (.pop, 1) := by decide +kernel
theorem dL_law_616 : decode cL_law 616 = .ok (.aload_n 2, 1) := by decide +kernel
theorem dL_law_617 : decode cL_law 617 = .ok (.invokevirtual 87, 3) := by decide +kernel
theorem dL_law_620 : decode cL_law 620 = .ok (.pop, 1) := by decide +kernel
theorem dL_law_621 : decode cL_law 621 = .ok (.goto 49, 3) := by decide +kernel
theorem dL_law_624 : decode cL_law 624 = .ok (.aload_n 1, 1) := by decide +kernel
theorem dL_law_625 : decode cL_law 625 = .ok (.aload_n 0, 1) := by decide +kernel
theorem dL_law_626 : decode cL_law 626 = .ok (.iload_n 3, 1) := by decide +kernel
theorem dL_law_627 : decode cL_law 627 = .ok (.iconst 1, 1) := by decide +kernel
theorem dL_law_628 : decode cL_law 628 = .ok (.iadd, 1) := by decide +kernel
theorem dL_law_629 : decode cL_law 629 = .ok (.iaload, 1) := by decide +kernel
theorem dL_law_630 : decode cL_law 630 = .ok (.aload_n 0, 1) := by decide +kernel
theorem dL_law_631 : decode cL_law 631 = .ok (.iload_n 3, 1) := by decide +kernel
theorem dL_law_632 : decode cL_law 632 = .ok (.iconst 2, 1) := by decide +kernel
theorem dL_law_633 : decode cL_law 633 = .ok (.iadd, 1) := by decide +kernel
theorem dL_law_634 : decode cL_law 634 = .ok (.iaload, 1) := by decide +kernel
theorem dL_law_635 : decode cL_law 635 = .ok (.invokevirtual 88, 3) := by decide +kernel
theorem dL_law_638 : decode cL_law 638 = .ok (.pop, 1) := by decide +kernel
theorem dL_law_639 : decode cL_law 639 = .ok (.aload_n 2, 1) := by decide +kernel
theorem dL_law_640 : decode cL_law 640 = .ok (.aload_n 0, 1) := by decide +kernel
theorem dL_law_641 : decode cL_law 641 = .ok (.iload_n 3, 1) := by decide +kernel
theorem dL_law_642 : decode cL_law 642 = .ok (.iconst 1, 1) := by decide +kernel
theorem dL_law_643 : decode cL_law 643 = .ok (.iadd, 1) := by decide +kernel
theorem dL_law_644 : decode cL_law 644 = .ok (.iaload, 1) := by decide +kernel
theorem dL_law_645 : decode cL_law 645 = .ok (.aload_n 0, 1) := by decide +kernel
theorem dL_law_646 : decode cL_law 646 = .ok (.iload_n 3, 1) := by decide +kernel
theorem dL_law_647 : decode cL_law 647 = .ok (.iconst 2, 1) := by decide +kernel
theorem dL_law_648 : decode cL_law 648 = .ok (.iadd, 1) := by decide +kernel
theorem dL_law_649 : decode cL_law 649 = .ok (.iaload, 1) := by decide +kernel
theorem dL_law_650 : decode cL_law 650 = .ok (.invokevirtual 91, 3) := by decide +kernel
theorem dL_law_653 : decode cL_law 653 = .ok (.pop, 1) := by decide +kernel
theorem dL_law_654 : decode cL_law 654 = .ok (.goto 16, 3) := by decide +kernel
theorem dL_law_657 : decode cL_law 657 = .ok (.aload_n 1, 1) := by decide +kernel
theorem dL_law_658 : decode cL_law 658 = .ok (.invokevirtual 92, 3) := by decide +kernel
theorem dL_law_661 : decode cL_law 661 = .ok (.pop2, 1) := by decide +kernel
theorem dL_law_662 : decode cL_law 662 = .ok (.aload_n 2, 1) := by decide +kernel
theorem dL_law_663 : decode cL_law 663 = .ok (.invokevirtual 95, 3) := by decide +kernel
theorem dL_law_666 : decode cL_law 666 = .ok (.pop2, 1) := by decide +kernel
theorem dL_law_667 : decode cL_law 667 = .ok (.goto 3, 3) := by decide +kernel
theorem dL_law_670 : decode cL_law 670 = .ok (.iinc 3 4, 3) := by decide +kernel
theorem dL_law_673 : decode cL_law 673 = .ok (.goto (-655), 3) := by decide +kernel
theorem dL_law_676 : decode cL_law 676 = .ok (.iconst 1, 1) := by decide +kernel
theorem dL_law_677 : decode cL_law 677 = .ok (.ireturn, 1) := by decide +kernel
