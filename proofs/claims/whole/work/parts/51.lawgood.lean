set_option maxRecDepth 20000 in
theorem ggL_law_X9_init : GoodIn wsL_law wsX9_init := goodIn_r _ [9, 10, 11, 12, 13, 14, 15, 16, 17, 18, 19, 20, 21, 22, 23, 24, 25, 26, 27, 28, 29, 30, 31, 32, 33, 34, 35, 36, 37, 38, 39, 40, 41, 42, 43, 44, 45, 46, 47, 48, 49, 50, 51, 52, 53, 54, 55, 56, 57, 58, 59, 60, 61, 62, 63, 64, 65, 66, 67, 68, 69, 70, 71, 72, 73, 74, 75, 76, 77, 78, 79, 80, 81, 82, 83, 84, 85, 86, 87, 88, 89, 90, 91, 92, 93, 94, 95, 96, 97, 98, 99, 100, 101, 102, 103, 893, 894, 859, 860, 861, 862, 863, 864, 865, 866, 867, 868, 895, 896, 897, 898, 899, 900, 901, 902, 903, 904, 905, 906, 907, 908, 909, 910, 911, 912, 913, 914, 915, 916] (by decide +kernel) (by decide +kernel)
set_option maxRecDepth 20000 in
theorem gL_law_X9_init : GoodIn wsL_law (wsX9_init) := ggL_law_X9_init
set_option maxRecDepth 20000 in
theorem ggL_law_X10_init : GoodIn wsL_law wsX10_init := goodIn_r _ [106, 107, 11, 12, 86, 108, 45, 109, 110, 111, 112, 113, 114, 115, 116, 117, 118, 869, 870, 871, 872, 873, 874, 875, 876, 877, 878, 879, 880, 881, 882, 883, 884, 885, 886, 887, 888, 889, 890, 891, 892] (by decide +kernel) (by decide +kernel)
set_option maxRecDepth 20000 in
theorem gL_law_X10_init : GoodIn wsL_law (wsX10_init) := ggL_law_X10_init
set_option maxRecDepth 20000 in
theorem ggL_law_X9_land : GoodIn wsL_law wsX9_land := goodIn_r _ [122, 16, 123, 124, 2, 125, 126, 127, 128, 129, 130, 131, 132, 133, 134, 15, 135, 52, 136, 137, 138, 139, 140, 141, 142, 143, 144, 145, 146, 147, 859, 860, 861, 862, 863, 864, 865, 866, 867, 868, 893, 894] (by decide +kernel) (by decide +kernel)
set_option maxRecDepth 20000 in
theorem gL_law_X9_land : GoodIn wsL_law (wsV RL 13 RX9 yX9_land wsX9_land) := goodIn_app (goodIn_of _ (by decide +kernel)) ggL_law_X9_land
set_option maxRecDepth 20000 in
theorem ggL_law_X10_land : GoodIn wsL_law wsX10_land := goodIn_r _ [151, 152, 109, 153, 154, 5, 155, 156, 157, 158, 159, 160, 161, 162, 869, 870, 871, 872, 873, 874, 875, 876, 877, 878, 879, 880, 881, 882, 883, 884, 885, 886, 887, 888, 889, 890, 891, 892] (by decide +kernel) (by decide +kernel)
set_option maxRecDepth 20000 in
theorem gL_law_X10_land : GoodIn wsL_law (wsV RL 17 RX10 yX10_land wsX10_land) := goodIn_app (goodIn_of _ (by decide +kernel)) ggL_law_X10_land
set_option maxRecDepth 20000 in
theorem ggL_law_X9_rate : GoodIn wsL_law wsX9_rate := goodIn_r _ [166, 16, 129, 130, 2, 131, 126, 127, 128, 167, 168, 169, 15, 170, 53, 859, 860, 861, 862, 863, 864, 865, 866, 867, 868, 893, 894] (by decide +kernel) (by decide +kernel)
set_option maxRecDepth 20000 in
theorem gL_law_X9_rate : GoodIn wsL_law (wsV RL 18 RX9 yX9_rate wsX9_rate) := goodIn_app (goodIn_of _ (by decide +kernel)) ggL_law_X9_rate
set_option maxRecDepth 20000 in
theorem ggL_law_X10_rate : GoodIn wsL_law wsX10_rate := goodIn_r _ [174, 152, 110, 156, 157, 5, 158, 869, 870, 871, 872, 873, 874, 875, 876, 877, 878, 879, 880, 881, 882, 883, 884, 885, 886, 887, 888, 889, 890, 891, 892] (by decide +kernel) (by decide +kernel)
set_option maxRecDepth 20000 in
theorem gL_law_X10_rate : GoodIn wsL_law (wsV RL 22 RX10 yX10_rate wsX10_rate) := goodIn_app (goodIn_of _ (by decide +kernel)) ggL_law_X10_rate
set_option maxRecDepth 20000 in
theorem ggL_law_X9_people : GoodIn wsL_law wsX9_people := goodIn_r _ [178, 179, 16, 123, 124, 2, 125, 126, 127, 128, 180, 141, 142, 15, 143, 144, 145, 146, 147, 136, 137, 138, 139, 52, 859, 860, 861, 862, 863, 864, 865, 866, 867, 868, 893, 894] (by decide +kernel) (by decide +kernel)
set_option maxRecDepth 20000 in
theorem gL_law_X9_people : GoodIn wsL_law (wsV RL 23 RX9 yX9_people wsX9_people) := goodIn_app (goodIn_of _ (by decide +kernel)) ggL_law_X9_people
set_option maxRecDepth 20000 in
theorem ggL_law_X10_people : GoodIn wsL_law wsX10_people := goodIn_r _ [184, 152, 153, 154, 5, 155, 156, 157, 158, 159, 160, 161, 162, 109, 869, 870, 871, 872, 873, 874, 875, 876, 877, 878, 879, 880, 881, 882, 883, 884, 885, 886, 887, 888, 889, 890, 891, 892] (by decide +kernel) (by decide +kernel)
set_option maxRecDepth 20000 in
theorem gL_law_X10_people : GoodIn wsL_law (wsV RL 26 RX10 yX10_people wsX10_people) := goodIn_app (goodIn_of _ (by decide +kernel)) ggL_law_X10_people
set_option maxRecDepth 20000 in
theorem ggL_law_X9_posted : GoodIn wsL_law wsX9_posted := goodIn_r _ [188, 189, 16, 44, 123, 124, 2, 125, 126, 127, 128, 190, 191, 192, 15, 193, 53, 136, 137, 138, 139, 52, 194, 195, 196, 197, 198, 199, 200, 43, 201, 202, 203, 204, 205, 102, 103, 206, 207, 208, 209, 210, 211, 212, 213, 214, 215, 216, 217, 218, 219, 220, 221, 180, 141, 142, 143, 144, 145, 146, 147, 222, 223, 224, 225, 226, 859, 860, 861, 862, 863, 864, 865, 866, 867, 868, 893, 894, 915, 916] (by decide +kernel) (by decide +kernel)
set_option maxRecDepth 20000 in
theorem gL_law_X9_posted : GoodIn wsL_law (wsV RL 27 RX9 yX9_posted wsX9_posted) := goodIn_app (goodIn_of _ (by decide +kernel)) ggL_law_X9_posted
set_option maxRecDepth 20000 in
theorem ggL_law_X10_posted : GoodIn wsL_law wsX10_posted := goodIn_r _ [230, 152, 231, 232, 233, 153, 154, 5, 155, 156, 157, 158, 234, 235, 236, 237, 109, 110, 238, 239, 240, 241, 159, 160, 161, 162, 242, 243, 244, 245, 246, 247, 248, 869, 870, 871, 872, 873, 874, 875, 876, 877, 878, 879, 880, 881, 882, 883, 884, 885, 886, 887, 888, 889, 890, 891, 892] (by decide +kernel) (by decide +kernel)
set_option maxRecDepth 20000 in
theorem gL_law_X10_posted : GoodIn wsL_law (wsV RL 31 RX10 yX10_posted wsX10_posted) := goodIn_app (goodIn_of _ (by decide +kernel)) ggL_law_X10_posted
set_option maxRecDepth 20000 in
theorem ggL_law_X9_type : GoodIn wsL_law wsX9_type := goodIn_r _ [252, 20, 126, 127, 2, 128, 253, 254, 255, 19, 256, 62, 61, 859, 860, 861, 862, 863, 864, 865, 866, 867, 868, 895, 896, 897, 898, 899, 900] (by decide +kernel) (by decide +kernel)
set_option maxRecDepth 20000 in
theorem gL_law_X9_type : GoodIn wsL_law (wsV RL 34 RX9 yX9_type wsX9_type) := goodIn_app (goodIn_of _ (by decide +kernel)) ggL_law_X9_type
set_option maxRecDepth 20000 in
theorem ggL_law_X10_type : GoodIn wsL_law wsX10_type := goodIn_r _ [260, 152, 261, 111, 262, 156, 157, 5, 158, 869, 870, 871, 872, 873, 874, 875, 876, 877, 878, 879, 880, 881, 882, 883, 884, 885, 886, 887, 888, 889, 890, 891, 892] (by decide +kernel) (by decide +kernel)
set_option maxRecDepth 20000 in
theorem gL_law_X10_type : GoodIn wsL_law (wsV RL 38 RX10 yX10_type wsX10_type) := goodIn_app (goodIn_of _ (by decide +kernel)) ggL_law_X10_type
set_option maxRecDepth 20000 in
theorem ggL_law_X9_clear : GoodIn wsL_law wsX9_clear := goodIn_r _ [266, 20, 267, 268, 269, 19, 270, 62, 859, 860, 861, 862, 863, 864, 865, 866, 867, 868, 895, 896, 897, 898, 899, 900] (by decide +kernel) (by decide +kernel)
set_option maxRecDepth 20000 in
theorem gL_law_X9_clear : GoodIn wsL_law (wsV RL 39 RX9 yX9_clear wsX9_clear) := goodIn_app (goodIn_of _ (by decide +kernel)) ggL_law_X9_clear
set_option maxRecDepth 20000 in
theorem ggL_law_X10_clear : GoodIn wsL_law wsX10_clear := goodIn_r _ [274, 152, 261, 869, 870, 871, 872, 873, 874, 875, 876, 877, 878, 879, 880, 881, 882, 883, 884, 885, 886, 887, 888, 889, 890, 891, 892] (by decide +kernel) (by decide +kernel)
set_option maxRecDepth 20000 in
theorem gL_law_X10_clear : GoodIn wsL_law (wsV RL 43 RX10 yX10_clear wsX10_clear) := goodIn_app (goodIn_of _ (by decide +kernel)) ggL_law_X10_clear
set_option maxRecDepth 20000 in
theorem ggL_law_X9_habit : GoodIn wsL_law wsX9_habit := goodIn_r _ [278, 24, 20, 279, 280, 281, 23, 282, 283, 284, 285, 286, 19, 287, 66, 288, 289, 290, 291, 65, 62, 61, 67, 63, 64, 292, 293, 294, 295, 296, 297, 298, 299, 300, 301, 302, 303, 304, 305, 306, 307, 308, 309, 310, 311, 312, 313, 314, 315, 316, 317, 318, 319, 320, 321, 322, 323, 324, 325, 326, 327, 328, 329, 330, 331, 332, 333, 334, 335, 336, 337, 338, 339, 340, 341, 342, 343, 344, 345, 346, 347, 348, 349, 350, 351, 352, 353, 354, 355, 356, 357, 358, 359, 360, 361, 362, 363, 364, 365, 366, 367, 368, 369, 370, 371, 372, 204, 373, 374, 375, 376, 377, 378, 73, 71, 379, 380, 381, 382, 74, 72, 75, 383, 268, 269, 270, 384, 385, 386, 387, 388, 389, 390, 391, 392, 127, 2, 128, 859, 860, 861, 862, 863, 864, 865, 866, 867, 868, 895, 896, 897, 898, 899, 900, 901, 902, 903, 904, 905] (by decide +kernel) (by decide +kernel)
set_option maxRecDepth 20000 in
theorem gL_law_X9_habit : GoodIn wsL_law (wsV RL 44 RX9 yX9_habit wsX9_habit) := goodIn_app (goodIn_of _ (by decide +kernel)) ggL_law_X9_habit
set_option maxRecDepth 20000 in
theorem ggL_law_X10_habit : GoodIn wsL_law wsX10_habit := goodIn_r _ [396, 152, 397, 398, 399, 112, 400, 401, 261, 402, 403, 404, 5, 405, 406, 407, 408, 409, 410, 111, 156, 157, 158, 411, 412, 413, 414, 415, 416, 417, 418, 419, 420, 421, 422, 423, 424, 425, 869, 870, 871, 872, 873, 874, 875, 876, 877, 878, 879, 880, 881, 882, 883, 884, 885, 886, 887, 888, 889, 890, 891, 892] (by decide +kernel) (by decide +kernel)
set_option maxRecDepth 20000 in
theorem gL_law_X10_habit : GoodIn wsL_law (wsV RL 47 RX10 yX10_habit wsX10_habit) := goodIn_app (goodIn_of _ (by decide +kernel)) ggL_law_X10_habit
set_option maxRecDepth 20000 in
theorem ggL_law_X9_found : GoodIn wsL_law wsX9_found := goodIn_r _ [429, 28, 16, 24, 430, 431, 2, 432, 123, 124, 125, 126, 127, 128, 433, 434, 435, 27, 436, 79, 80, 81, 437, 55, 56, 57, 438, 439, 440, 441, 442, 372, 204, 373, 443, 137, 138, 15, 139, 52, 444, 445, 446, 447, 448, 449, 450, 451, 452, 453, 454, 455, 859, 860, 861, 862, 863, 864, 865, 866, 867, 868, 906, 907, 908, 901, 902, 903, 904, 905, 893, 894] (by decide +kernel) (by decide +kernel)
set_option maxRecDepth 20000 in
theorem gL_law_X9_found : GoodIn wsL_law (wsV RL 48 RX9 yX9_found wsX9_found) := goodIn_app (goodIn_of _ (by decide +kernel)) ggL_law_X9_found
set_option maxRecDepth 20000 in
theorem ggL_law_X10_found : GoodIn wsL_law wsX10_found := goodIn_r _ [459, 152, 113, 460, 461, 5, 462, 153, 154, 155, 156, 157, 158, 463, 464, 465, 466, 401, 112, 109, 467, 468, 469, 470, 869, 870, 871, 872, 873, 874, 875, 876, 877, 878, 879, 880, 881, 882, 883, 884, 885, 886, 887, 888, 889, 890, 891, 892] (by decide +kernel) (by decide +kernel)
set_option maxRecDepth 20000 in
theorem gL_law_X10_found : GoodIn wsL_law (wsV RL 52 RX10 yX10_found wsX10_found) := goodIn_app (goodIn_of _ (by decide +kernel)) ggL_law_X10_found
set_option maxRecDepth 20000 in
theorem ggL_law_X9_weighed : GoodIn wsL_law wsX9_weighed := goodIn_r _ [474, 189, 28, 16, 24, 44, 430, 431, 2, 432, 123, 124, 125, 126, 127, 128, 433, 434, 435, 27, 436, 79, 80, 81, 437, 55, 56, 57, 438, 439, 440, 441, 442, 372, 204, 373, 443, 137, 138, 15, 139, 52, 444, 445, 446, 447, 475, 476, 477, 478, 180, 141, 142, 143, 144, 145, 146, 147, 136, 198, 199, 200, 43, 201, 202, 203, 205, 102, 103, 206, 207, 208, 479, 480, 481, 482, 483, 448, 449, 450, 451, 222, 223, 224, 225, 226, 209, 210, 211, 212, 213, 214, 215, 216, 217, 859, 860, 861, 862, 863, 864, 865, 866, 867, 868, 906, 907, 908, 901, 902, 903, 904, 905, 893, 894, 915, 916] (by decide +kernel) (by decide +kernel)
set_option maxRecDepth 20000 in
theorem gL_law_X9_weighed : GoodIn wsL_law (wsV RL 53 RX9 yX9_weighed wsX9_weighed) := goodIn_app (goodIn_of _ (by decide +kernel)) ggL_law_X9_weighed
set_option maxRecDepth 20000 in
theorem ggL_law_X10_weighed : GoodIn wsL_law wsX10_weighed := goodIn_r _ [487, 152, 231, 460, 461, 5, 462, 153, 154, 155, 156, 157, 158, 463, 464, 465, 466, 113, 401, 112, 109, 488, 489, 490, 491, 232, 233, 159, 160, 161, 162, 467, 468, 469, 470, 242, 243, 244, 245, 246, 247, 248, 869, 870, 871, 872, 873, 874, 875, 876, 877, 878, 879, 880, 881, 882, 883, 884, 885, 886, 887, 888, 889, 890, 891, 892] (by decide +kernel) (by decide +kernel)
set_option maxRecDepth 20000 in
theorem gL_law_X10_weighed : GoodIn wsL_law (wsV RL 57 RX10 yX10_weighed wsX10_weighed) := goodIn_app (goodIn_of _ (by decide +kernel)) ggL_law_X10_weighed
set_option maxRecDepth 20000 in
theorem ggL_law_X9_mends : GoodIn wsL_law wsX9_mends := goodIn_r _ [495, 28, 16, 24, 44, 496, 203, 204, 205, 430, 431, 2, 432, 123, 124, 125, 126, 127, 128, 433, 434, 435, 27, 436, 79, 80, 81, 437, 55, 56, 57, 438, 439, 440, 441, 442, 372, 373, 443, 137, 138, 15, 139, 52, 444, 445, 446, 447, 475, 476, 477, 478, 180, 141, 142, 143, 144, 145, 146, 147, 136, 198, 199, 200, 43, 201, 202, 102, 103, 206, 207, 208, 479, 480, 481, 482, 483, 448, 449, 450, 451, 222, 223, 224, 225, 226, 497, 215, 216, 217, 859, 860, 861, 862, 863, 864, 865, 866, 867, 868, 915, 916, 906, 907, 908, 901, 902, 903, 904, 905, 893, 894] (by decide +kernel) (by decide +kernel)
set_option maxRecDepth 20000 in
theorem gL_law_X9_mends : GoodIn wsL_law (wsV RL 58 RX9 yX9_mends wsX9_mends) := goodIn_app (goodIn_of _ (by decide +kernel)) ggL_law_X9_mends
set_option maxRecDepth 20000 in
theorem ggL_law_X10_mends : GoodIn wsL_law wsX10_mends := goodIn_r _ [501, 152, 232, 233, 460, 461, 5, 462, 153, 154, 155, 156, 157, 158, 463, 464, 465, 466, 113, 401, 112, 109, 467, 468, 469, 470, 488, 489, 490, 491, 159, 160, 161, 162, 502, 503, 504, 869, 870, 871, 872, 873, 874, 875, 876, 877, 878, 879, 880, 881, 882, 883, 884, 885, 886, 887, 888, 889, 890, 891, 892] (by decide +kernel) (by decide +kernel)
set_option maxRecDepth 20000 in
theorem gL_law_X10_mends : GoodIn wsL_law (wsV RL 61 RX10 yX10_mends wsX10_mends) := goodIn_app (goodIn_of _ (by decide +kernel)) ggL_law_X10_mends
set_option maxRecDepth 20000 in
theorem ggL_law_X9_ways : GoodIn wsL_law wsX9_ways := goodIn_r _ [508, 189, 32, 509, 510, 2, 511, 126, 127, 128, 512, 513, 514, 31, 515, 516, 517, 518, 519, 520, 204, 521, 522, 372, 373, 523, 524, 525, 526, 527, 528, 529, 530, 87, 531, 859, 860, 861, 862, 863, 864, 865, 866, 867, 868, 909, 910] (by decide +kernel) (by decide +kernel)
set_option maxRecDepth 20000 in
theorem gL_law_X9_ways : GoodIn wsL_law (wsV RL 62 RX9 yX9_ways wsX9_ways) := goodIn_app (goodIn_of _ (by decide +kernel)) ggL_law_X9_ways
set_option maxRecDepth 20000 in
theorem ggL_law_X10_ways : GoodIn wsL_law wsX10_ways := goodIn_r _ [535, 152, 231, 156, 157, 5, 158, 536, 537, 538, 539, 540, 541, 542, 543, 108, 869, 870, 871, 872, 873, 874, 875, 876, 877, 878, 879, 880, 881, 882, 883, 884, 885, 886, 887, 888, 889, 890, 891, 892] (by decide +kernel) (by decide +kernel)
set_option maxRecDepth 20000 in
theorem gL_law_X10_ways : GoodIn wsL_law (wsV RL 66 RX10 yX10_ways wsX10_ways) := goodIn_app (goodIn_of _ (by decide +kernel)) ggL_law_X10_ways
set_option maxRecDepth 20000 in
theorem ggL_law_X9_few : GoodIn wsL_law wsX9_few := goodIn_r _ [547, 32, 509, 510, 2, 511, 126, 127, 128, 548, 549, 550, 31, 551, 552, 513, 514, 515, 516, 517, 518, 519, 520, 204, 521, 522, 372, 373, 523, 524, 525, 526, 527, 528, 529, 530, 87, 553, 554, 555, 556, 859, 860, 861, 862, 863, 864, 865, 866, 867, 868, 909, 910] (by decide +kernel) (by decide +kernel)
set_option maxRecDepth 20000 in
theorem gL_law_X9_few : GoodIn wsL_law (wsV RL 67 RX9 yX9_few wsX9_few) := goodIn_app (goodIn_of _ (by decide +kernel)) ggL_law_X9_few
set_option maxRecDepth 20000 in
theorem ggL_law_X10_few : GoodIn wsL_law wsX10_few := goodIn_r _ [560, 152, 156, 157, 5, 158, 561, 562, 563, 564, 565, 536, 537, 538, 539, 540, 541, 542, 543, 108, 869, 870, 871, 872, 873, 874, 875, 876, 877, 878, 879, 880, 881, 882, 883, 884, 885, 886, 887, 888, 889, 890, 891, 892] (by decide +kernel) (by decide +kernel)
set_option maxRecDepth 20000 in
theorem gL_law_X10_few : GoodIn wsL_law (wsV RL 70 RX10 yX10_few wsX10_few) := goodIn_app (goodIn_of _ (by decide +kernel)) ggL_law_X10_few
set_option maxRecDepth 20000 in
theorem ggL_law_X9_may : GoodIn wsL_law wsX9_may := goodIn_r _ [569, 32, 126, 127, 2, 128, 570, 571, 572, 31, 573, 523, 524, 525, 526, 527, 528, 529, 530, 87, 574, 575, 576, 577, 578, 579, 580, 581, 582, 583, 584, 585, 586, 587, 859, 860, 861, 862, 863, 864, 865, 866, 867, 868, 909, 910] (by decide +kernel) (by decide +kernel)
set_option maxRecDepth 20000 in
theorem gL_law_X9_may : GoodIn wsL_law (wsV RL 71 RX9 yX9_may wsX9_may) := goodIn_app (goodIn_of _ (by decide +kernel)) ggL_law_X9_may
set_option maxRecDepth 20000 in
theorem ggL_law_X10_may : GoodIn wsL_law wsX10_may := goodIn_r _ [591, 152, 592, 156, 157, 5, 158, 540, 541, 542, 543, 108, 869, 870, 871, 872, 873, 874, 875, 876, 877, 878, 879, 880, 881, 882, 883, 884, 885, 886, 887, 888, 889, 890, 891, 892] (by decide +kernel) (by decide +kernel)
set_option maxRecDepth 20000 in
theorem gL_law_X10_may : GoodIn wsL_law (wsV RL 74 RX10 yX10_may wsX10_may) := goodIn_app (goodIn_of _ (by decide +kernel)) ggL_law_X10_may
set_option maxRecDepth 20000 in
theorem ggL_law_X9_shadow : GoodIn wsL_law wsX9_shadow := goodIn_r _ [596, 189, 16, 32, 123, 124, 2, 125, 126, 127, 128, 190, 191, 192, 15, 193, 53, 136, 137, 138, 139, 52, 512, 513, 514, 31, 515, 516, 517, 518, 519, 520, 204, 521, 522, 372, 373, 523, 524, 525, 526, 527, 528, 529, 530, 87, 531, 859, 860, 861, 862, 863, 864, 865, 866, 867, 868, 893, 894, 909, 910] (by decide +kernel) (by decide +kernel)
set_option maxRecDepth 20000 in
theorem gL_law_X9_shadow : GoodIn wsL_law (wsV RL 75 RX9 yX9_shadow wsX9_shadow) := goodIn_app (goodIn_of _ (by decide +kernel)) ggL_law_X9_shadow
set_option maxRecDepth 20000 in
theorem ggL_law_X10_shadow : GoodIn wsL_law wsX10_shadow := goodIn_r _ [600, 152, 231, 153, 154, 5, 155, 156, 157, 158, 234, 235, 236, 237, 109, 110, 536, 537, 538, 539, 540, 541, 542, 543, 108, 869, 870, 871, 872, 873, 874, 875, 876, 877, 878, 879, 880, 881, 882, 883, 884, 885, 886, 887, 888, 889, 890, 891, 892] (by decide +kernel) (by decide +kernel)
set_option maxRecDepth 20000 in
theorem gL_law_X10_shadow : GoodIn wsL_law (wsV RL 78 RX10 yX10_shadow wsX10_shadow) := goodIn_app (goodIn_of _ (by decide +kernel)) ggL_law_X10_shadow
set_option maxRecDepth 20000 in
theorem ggL_law_X9_week : GoodIn wsL_law wsX9_week := goodIn_r _ [604, 36, 126, 127, 2, 128, 605, 606, 607, 35, 608, 93, 92, 859, 860, 861, 862, 863, 864, 865, 866, 867, 868, 911, 912] (by decide +kernel) (by decide +kernel)
set_option maxRecDepth 20000 in
theorem gL_law_X9_week : GoodIn wsL_law (wsV RL 79 RX9 yX9_week wsX9_week) := goodIn_app (goodIn_of _ (by decide +kernel)) ggL_law_X9_week
set_option maxRecDepth 20000 in
theorem ggL_law_X10_week : GoodIn wsL_law wsX10_week := goodIn_r _ [612, 152, 613, 114, 156, 157, 5, 158, 869, 870, 871, 872, 873, 874, 875, 876, 877, 878, 879, 880, 881, 882, 883, 884, 885, 886, 887, 888, 889, 890, 891, 892] (by decide +kernel) (by decide +kernel)
set_option maxRecDepth 20000 in
theorem gL_law_X10_week : GoodIn wsL_law (wsV RL 83 RX10 yX10_week wsX10_week) := goodIn_app (goodIn_of _ (by decide +kernel)) ggL_law_X10_week
set_option maxRecDepth 20000 in
theorem ggL_law_X9_turn : GoodIn wsL_law wsX9_turn := goodIn_r _ [617, 36, 126, 127, 2, 128, 618, 619, 620, 35, 621, 622, 623, 624, 625, 93, 92, 626, 627, 204, 628, 629, 630, 631, 632, 859, 860, 861, 862, 863, 864, 865, 866, 867, 868, 911, 912] (by decide +kernel) (by decide +kernel)
set_option maxRecDepth 20000 in
theorem gL_law_X9_turn : GoodIn wsL_law (wsV RL 84 RX9 yX9_turn wsX9_turn) := goodIn_app (goodIn_of _ (by decide +kernel)) ggL_law_X9_turn
set_option maxRecDepth 20000 in
theorem ggL_law_X10_turn : GoodIn wsL_law wsX10_turn := goodIn_r _ [636, 152, 156, 157, 5, 158, 637, 638, 639, 640, 613, 114, 869, 870, 871, 872, 873, 874, 875, 876, 877, 878, 879, 880, 881, 882, 883, 884, 885, 886, 887, 888, 889, 890, 891, 892] (by decide +kernel) (by decide +kernel)
set_option maxRecDepth 20000 in
theorem gL_law_X10_turn : GoodIn wsL_law (wsV RL 87 RX10 yX10_turn wsX10_turn) := goodIn_app (goodIn_of _ (by decide +kernel)) ggL_law_X10_turn
set_option maxRecDepth 20000 in
theorem ggL_law_X9_stops : GoodIn wsL_law wsX9_stops := goodIn_r _ [644, 36, 645, 646, 647, 35, 648, 93, 649, 650, 651, 652, 92, 653, 630, 631, 632, 622, 623, 624, 625, 626, 627, 204, 628, 654, 619, 620, 621, 859, 860, 861, 862, 863, 864, 865, 866, 867, 868, 911, 912] (by decide +kernel) (by decide +kernel)
set_option maxRecDepth 20000 in
theorem gL_law_X9_stops : GoodIn wsL_law (wsV RL 88 RX9 yX9_stops wsX9_stops) := goodIn_app (goodIn_of _ (by decide +kernel)) ggL_law_X9_stops
set_option maxRecDepth 20000 in
theorem ggL_law_X10_stops : GoodIn wsL_law wsX10_stops := goodIn_r _ [658, 152, 613, 114, 637, 638, 639, 5, 640, 869, 870, 871, 872, 873, 874, 875, 876, 877, 878, 879, 880, 881, 882, 883, 884, 885, 886, 887, 888, 889, 890, 891, 892] (by decide +kernel) (by decide +kernel)
set_option maxRecDepth 20000 in
theorem gL_law_X10_stops : GoodIn wsL_law (wsV RL 91 RX10 yX10_stops wsX10_stops) := goodIn_app (goodIn_of _ (by decide +kernel)) ggL_law_X10_stops
set_option maxRecDepth 20000 in
theorem ggL_law_X9_house : GoodIn wsL_law wsX9_house := goodIn_r _ [662, 40, 663, 520, 204, 521, 664, 627, 628, 126, 127, 2, 128, 665, 666, 667, 39, 668, 98, 97, 859, 860, 861, 862, 863, 864, 865, 866, 867, 868, 913, 914] (by decide +kernel) (by decide +kernel)
set_option maxRecDepth 20000 in
theorem gL_law_X9_house : GoodIn wsL_law (wsV RL 92 RX9 yX9_house wsX9_house) := goodIn_app (goodIn_of _ (by decide +kernel)) ggL_law_X9_house
set_option maxRecDepth 20000 in
theorem ggL_law_X10_house : GoodIn wsL_law wsX10_house := goodIn_r _ [672, 152, 673, 115, 156, 157, 5, 158, 869, 870, 871, 872, 873, 874, 875, 876, 877, 878, 879, 880, 881, 882, 883, 884, 885, 886, 887, 888, 889, 890, 891, 892] (by decide +kernel) (by decide +kernel)
set_option maxRecDepth 20000 in
theorem gL_law_X10_house : GoodIn wsL_law (wsV RL 95 RX10 yX10_house wsX10_house) := goodIn_app (goodIn_of _ (by decide +kernel)) ggL_law_X10_house
set_option maxRecDepth 20000 in
theorem ggL_law_X9_held : GoodIn wsL_law wsX9_held := goodIn_r _ [677, 40, 126, 127, 2, 128, 678, 679, 680, 39, 681, 98, 97, 859, 860, 861, 862, 863, 864, 865, 866, 867, 868, 913, 914] (by decide +kernel) (by decide +kernel)
set_option maxRecDepth 20000 in
theorem gL_law_X9_held : GoodIn wsL_law (wsV RL 96 RX9 yX9_held wsX9_held) := goodIn_app (goodIn_of _ (by decide +kernel)) ggL_law_X9_held
set_option maxRecDepth 20000 in
theorem ggL_law_X10_held : GoodIn wsL_law wsX10_held := goodIn_r _ [685, 152, 156, 157, 5, 158, 686, 687, 688, 689, 673, 115, 869, 870, 871, 872, 873, 874, 875, 876, 877, 878, 879, 880, 881, 882, 883, 884, 885, 886, 887, 888, 889, 890, 891, 892] (by decide +kernel) (by decide +kernel)
set_option maxRecDepth 20000 in
theorem gL_law_X10_held : GoodIn wsL_law (wsV RL 99 RX10 yX10_held wsX10_held) := goodIn_app (goodIn_of _ (by decide +kernel)) ggL_law_X10_held
set_option maxRecDepth 20000 in
theorem ggL_law_X9_wider : GoodIn wsL_law wsX9_wider := goodIn_r _ [693, 40, 126, 127, 2, 128, 694, 695, 696, 39, 697, 98, 97, 859, 860, 861, 862, 863, 864, 865, 866, 867, 868, 913, 914] (by decide +kernel) (by decide +kernel)
set_option maxRecDepth 20000 in
theorem gL_law_X9_wider : GoodIn wsL_law (wsV RL 100 RX9 yX9_wider wsX9_wider) := goodIn_app (goodIn_of _ (by decide +kernel)) ggL_law_X9_wider
set_option maxRecDepth 20000 in
theorem ggL_law_X10_wider : GoodIn wsL_law wsX10_wider := goodIn_r _ [701, 152, 673, 156, 157, 5, 158, 686, 687, 688, 689, 115, 869, 870, 871, 872, 873, 874, 875, 876, 877, 878, 879, 880, 881, 882, 883, 884, 885, 886, 887, 888, 889, 890, 891, 892] (by decide +kernel) (by decide +kernel)
set_option maxRecDepth 20000 in
theorem gL_law_X10_wider : GoodIn wsL_law (wsV RL 103 RX10 yX10_wider wsX10_wider) := goodIn_app (goodIn_of _ (by decide +kernel)) ggL_law_X10_wider
set_option maxRecDepth 20000 in
theorem ggL_law_X9_price : GoodIn wsL_law wsX9_price := goodIn_r _ [705, 46, 126, 127, 2, 128, 859, 860, 861, 862, 863, 864, 865, 866, 867, 868] (by decide +kernel) (by decide +kernel)
set_option maxRecDepth 20000 in
theorem gL_law_X9_price : GoodIn wsL_law (wsV RL 104 RX9 yX9_price wsX9_price) := goodIn_app (goodIn_of _ (by decide +kernel)) ggL_law_X9_price
set_option maxRecDepth 20000 in
theorem ggL_law_X10_price : GoodIn wsL_law wsX10_price := goodIn_r _ [709, 152, 116, 117, 118, 156, 157, 5, 158, 869, 870, 871, 872, 873, 874, 875, 876, 877, 878, 879, 880, 881, 882, 883, 884, 885, 886, 887, 888, 889, 890, 891, 892] (by decide +kernel) (by decide +kernel)
set_option maxRecDepth 20000 in
theorem gL_law_X10_price : GoodIn wsL_law (wsV RL 107 RX10 yX10_price wsX10_price) := goodIn_app (goodIn_of _ (by decide +kernel)) ggL_law_X10_price
set_option maxRecDepth 20000 in
theorem ggL_law_X9_error : GoodIn wsL_law wsX9_error := goodIn_r _ [713, 16, 123, 124, 2, 125, 126, 127, 128, 180, 141, 142, 15, 143, 144, 145, 146, 147, 136, 137, 138, 139, 52, 714, 715, 716, 717, 32, 46, 44, 718, 719, 720, 31, 721, 88, 722, 723, 56, 724, 516, 517, 518, 519, 520, 204, 521, 522, 372, 373, 523, 524, 525, 526, 527, 528, 529, 530, 87, 553, 554, 555, 556, 218, 219, 220, 221, 194, 195, 196, 197, 190, 191, 192, 193, 53, 198, 199, 200, 43, 201, 202, 203, 205, 102, 103, 206, 207, 208, 222, 223, 224, 225, 226, 497, 215, 216, 217, 725, 726, 727, 728, 729, 214, 859, 860, 861, 862, 863, 864, 865, 866, 867, 868, 893, 894, 909, 910, 915, 916] (by decide +kernel) (by decide +kernel)
set_option maxRecDepth 20000 in
theorem gL_law_X9_error : GoodIn wsL_law (wsV RL 108 RX9 yX9_error wsX9_error) := goodIn_app (goodIn_of _ (by decide +kernel)) ggL_law_X9_error
set_option maxRecDepth 20000 in
theorem ggL_law_X10_error : GoodIn wsL_law wsX10_error := goodIn_r _ [733, 152, 153, 154, 5, 155, 156, 157, 158, 159, 160, 161, 162, 109, 734, 735, 736, 737, 232, 565, 233, 118, 238, 239, 240, 241, 234, 235, 236, 237, 110, 561, 562, 563, 564, 536, 537, 538, 539, 540, 541, 542, 543, 108, 869, 870, 871, 872, 873, 874, 875, 876, 877, 878, 879, 880, 881, 882, 883, 884, 885, 886, 887, 888, 889, 890, 891, 892] (by decide +kernel) (by decide +kernel)
set_option maxRecDepth 20000 in
theorem gL_law_X10_error : GoodIn wsL_law (wsV RL 111 RX10 yX10_error wsX10_error) := goodIn_app (goodIn_of _ (by decide +kernel)) ggL_law_X10_error
set_option maxRecDepth 20000 in
theorem ggL_law_X9_best : GoodIn wsL_law wsX9_best := goodIn_r _ [741, 16, 126, 127, 2, 128, 742, 743, 744, 15, 745, 140, 141, 142, 143, 144, 145, 146, 147, 136, 137, 138, 139, 52, 746, 747, 748, 749, 46, 750, 751, 752, 753, 180, 754, 755, 756, 757, 664, 627, 204, 628, 714, 715, 716, 717, 32, 44, 718, 719, 720, 31, 721, 88, 722, 723, 56, 724, 516, 517, 518, 519, 520, 521, 522, 372, 373, 523, 524, 525, 526, 527, 528, 529, 530, 87, 553, 554, 555, 556, 218, 219, 220, 221, 194, 195, 196, 197, 190, 191, 192, 193, 53, 198, 199, 200, 43, 201, 202, 203, 205, 102, 103, 206, 207, 208, 222, 223, 224, 225, 226, 497, 215, 216, 217, 725, 726, 727, 728, 729, 214, 859, 860, 861, 862, 863, 864, 865, 866, 867, 868, 893, 894, 909, 910, 915, 916] (by decide +kernel) (by decide +kernel)
set_option maxRecDepth 20000 in
theorem gL_law_X9_best : GoodIn wsL_law (wsV RL 112 RX9 yX9_best wsX9_best) := goodIn_app (goodIn_of _ (by decide +kernel)) ggL_law_X9_best
set_option maxRecDepth 20000 in
theorem ggL_law_X10_best : GoodIn wsL_law wsX10_best := goodIn_r _ [761, 152, 116, 117, 156, 157, 5, 158, 159, 160, 161, 162, 109, 762, 763, 764, 765, 734, 735, 736, 737, 232, 565, 233, 118, 238, 239, 240, 241, 234, 235, 236, 237, 110, 561, 562, 563, 564, 536, 537, 538, 539, 540, 541, 542, 543, 108, 869, 870, 871, 872, 873, 874, 875, 876, 877, 878, 879, 880, 881, 882, 883, 884, 885, 886, 887, 888, 889, 890, 891, 892] (by decide +kernel) (by decide +kernel)
set_option maxRecDepth 20000 in
theorem gL_law_X10_best : GoodIn wsL_law (wsV RL 115 RX10 yX10_best wsX10_best) := goodIn_app (goodIn_of _ (by decide +kernel)) ggL_law_X10_best
set_option maxRecDepth 20000 in
theorem ggL_law_X9_cost : GoodIn wsL_law wsX9_cost := goodIn_r _ [769, 123, 124, 2, 125, 126, 127, 128, 770, 771, 772, 773, 47, 774, 775, 776, 777, 778, 750, 751, 752, 753, 46, 16, 180, 141, 142, 15, 143, 144, 145, 146, 147, 136, 137, 138, 139, 52, 779, 780, 781, 782, 783, 24, 784, 785, 786, 787, 788, 789, 790, 791, 792, 793, 794, 795, 796, 797, 798, 36, 799, 800, 801, 802, 803, 859, 860, 861, 862, 863, 864, 865, 866, 867, 868, 893, 894, 901, 902, 903, 904, 905, 911, 912] (by decide +kernel) (by decide +kernel)
set_option maxRecDepth 20000 in
theorem gL_law_X9_cost : GoodIn wsL_law (wsV RL 116 RX9 yX9_cost wsX9_cost) := goodIn_app (goodIn_of _ (by decide +kernel)) ggL_law_X9_cost
set_option maxRecDepth 20000 in
theorem ggL_law_X10_cost : GoodIn wsL_law wsX10_cost := goodIn_r _ [807, 152, 116, 117, 808, 809, 810, 811, 812, 813, 814, 401, 613, 156, 157, 5, 158, 153, 154, 155, 159, 160, 161, 162, 109, 869, 870, 871, 872, 873, 874, 875, 876, 877, 878, 879, 880, 881, 882, 883, 884, 885, 886, 887, 888, 889, 890, 891, 892] (by decide +kernel) (by decide +kernel)
set_option maxRecDepth 20000 in
theorem gL_law_X10_cost : GoodIn wsL_law (wsV RL 119 RX10 yX10_cost wsX10_cost) := goodIn_app (goodIn_of _ (by decide +kernel)) ggL_law_X10_cost
set_option maxRecDepth 20000 in
theorem ggL_law_X9_begin : GoodIn wsL_law wsX9_begin := goodIn_r _ [818, 16, 36, 40, 819, 820, 821, 15, 822, 140, 141, 142, 143, 144, 145, 146, 147, 136, 137, 138, 139, 52, 823, 824, 825, 826, 54, 55, 56, 57, 827, 828, 829, 35, 830, 93, 831, 832, 833, 39, 834, 98, 859, 860, 861, 862, 863, 864, 865, 866, 867, 868, 893, 894, 911, 912, 913, 914] (by decide +kernel) (by decide +kernel)
set_option maxRecDepth 20000 in
theorem gL_law_X9_begin : GoodIn wsL_law (wsV RL 120 RX9 yX9_begin wsX9_begin) := goodIn_app (goodIn_of _ (by decide +kernel)) ggL_law_X9_begin
set_option maxRecDepth 20000 in
theorem ggL_law_X10_begin : GoodIn wsL_law wsX10_begin := goodIn_r _ [838, 152, 109, 613, 673, 839, 840, 841, 5, 842, 159, 160, 161, 162, 869, 870, 871, 872, 873, 874, 875, 876, 877, 878, 879, 880, 881, 882, 883, 884, 885, 886, 887, 888, 889, 890, 891, 892] (by decide +kernel) (by decide +kernel)
set_option maxRecDepth 20000 in
theorem gL_law_X10_begin : GoodIn wsL_law (wsV RL 123 RX10 yX10_begin wsX10_begin) := goodIn_app (goodIn_of _ (by decide +kernel)) ggL_law_X10_begin
set_option maxRecDepth 20000 in
theorem ggL_law_X9_count : GoodIn wsL_law wsX9_count := goodIn_r _ [846, 16, 24, 36, 40, 20, 819, 820, 821, 15, 822, 140, 141, 142, 143, 144, 145, 146, 147, 136, 137, 138, 139, 52, 859, 860, 861, 862, 863, 864, 865, 866, 867, 868, 901, 902, 903, 904, 905, 911, 912, 913, 914, 895, 896, 897, 898, 899, 900, 893, 894] (by decide +kernel) (by decide +kernel)
set_option maxRecDepth 20000 in
theorem gL_law_X9_count : GoodIn wsL_law (wsV RL 124 RX9 yX9_count wsX9_count) := goodIn_app (goodIn_of _ (by decide +kernel)) ggL_law_X9_count
set_option maxRecDepth 20000 in
theorem ggL_law_X10_count : GoodIn wsL_law wsX10_count := goodIn_r _ [850, 152, 401, 613, 673, 261, 839, 840, 841, 5, 842, 159, 160, 161, 162, 109, 869, 870, 871, 872, 873, 874, 875, 876, 877, 878, 879, 880, 881, 882, 883, 884, 885, 886, 887, 888, 889, 890, 891, 892] (by decide +kernel) (by decide +kernel)
set_option maxRecDepth 20000 in
theorem gL_law_X10_count : GoodIn wsL_law (wsV RL 127 RX10 yX10_count wsX10_count) := goodIn_app (goodIn_of _ (by decide +kernel)) ggL_law_X10_count
set_option maxRecDepth 20000 in
theorem ggL_law_X9_trace : GoodIn wsL_law wsX9_trace := goodIn_r _ [854, 47, 859, 860, 861, 862, 863, 864, 865, 866, 867, 868] (by decide +kernel) (by decide +kernel)
set_option maxRecDepth 20000 in
theorem gL_law_X9_trace : GoodIn wsL_law (wsV RL 128 RX9 yX9_trace wsX9_trace) := goodIn_app (goodIn_of _ (by decide +kernel)) ggL_law_X9_trace
set_option maxRecDepth 20000 in
theorem ggL_law_X10_trace : GoodIn wsL_law wsX10_trace := goodIn_r _ [858, 152, 808, 869, 870, 871, 872, 873, 874, 875, 876, 877, 878, 879, 880, 881, 882, 883, 884, 885, 886, 887, 888, 889, 890, 891, 892] (by decide +kernel) (by decide +kernel)
set_option maxRecDepth 20000 in
theorem gL_law_X10_trace : GoodIn wsL_law (wsV RL 132 RX10 yX10_trace wsX10_trace) := goodIn_app (goodIn_of _ (by decide +kernel)) ggL_law_X10_trace
