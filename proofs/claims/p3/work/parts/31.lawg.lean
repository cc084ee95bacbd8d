/-! the law's words hold its callees' -/
set_option maxRecDepth 20000 in
theorem ggL_law_X7_init : GoodIn wsL_law wsX7_init := goodIn_r _ [8, 9, 10, 11, 12, 13, 14, 15, 16, 17, 18, 19, 20, 21, 22, 23, 24, 25, 26, 27, 28, 29, 30, 31, 32, 33, 34, 35, 36, 37, 38, 39, 40, 41, 42, 43, 44, 45, 46, 47, 48, 49, 50, 51, 52, 53, 54, 55, 56, 57, 58, 59, 60, 61, 62, 63, 64, 65, 66, 67, 68, 69, 70, 71, 72, 73, 74, 75, 76, 77, 78, 79, 705, 706, 707, 678, 679, 680, 681, 682, 683, 684, 685, 686, 687, 708, 709, 710, 711, 712, 713, 714, 715, 716, 717, 718] (by decide +kernel) (by decide +kernel)
set_option maxRecDepth 20000 in
theorem gL_law_X7_init : GoodIn wsL_law (wsX7_init) := ggL_law_X7_init
set_option maxRecDepth 20000 in
theorem ggL_law_X8_init : GoodIn wsL_law wsX8_init := goodIn_r _ [82, 83, 10, 11, 84, 85, 43, 86, 87, 88, 89, 90, 91, 54, 92, 93, 94, 95, 96, 97, 98, 99, 688, 689, 690, 691, 692, 693, 694, 695, 696, 697, 698, 699, 700, 701, 702, 703, 704] (by decide +kernel) (by decide +kernel)
set_option maxRecDepth 20000 in
theorem gL_law_X8_init : GoodIn wsL_law (wsX8_init) := ggL_law_X8_init
set_option maxRecDepth 20000 in
theorem ggL_law_X7_thing : GoodIn wsL_law wsX7_thing := goodIn_r _ [103, 15, 20, 37, 104, 105, 106, 14, 107, 46, 108, 109, 110, 19, 111, 50, 112, 113, 2, 114, 678, 679, 680, 681, 682, 683, 684, 685, 686, 687, 705, 706, 707, 708] (by decide +kernel) (by decide +kernel)
set_option maxRecDepth 20000 in
theorem gL_law_X7_thing : GoodIn wsL_law (wsV RL 13 RX7 yX7_thing wsX7_thing) := goodIn_app (goodIn_of _ (by decide +kernel)) ggL_law_X7_thing
set_option maxRecDepth 20000 in
theorem ggL_law_X8_thing : GoodIn wsL_law wsX8_thing := goodIn_r _ [118, 119, 85, 86, 120, 121, 122, 5, 123, 87, 688, 689, 690, 691, 692, 693, 694, 695, 696, 697, 698, 699, 700, 701, 702, 703, 704] (by decide +kernel) (by decide +kernel)
set_option maxRecDepth 20000 in
theorem gL_law_X8_thing : GoodIn wsL_law (wsV RL 17 RX8 yX8_thing wsX8_thing) := goodIn_app (goodIn_of _ (by decide +kernel)) ggL_law_X8_thing
set_option maxRecDepth 20000 in
theorem ggL_law_X7_arrow : GoodIn wsL_law wsX7_arrow := goodIn_r _ [127, 15, 20, 128, 129, 130, 14, 131, 46, 132, 133, 134, 135, 136, 137, 138, 139, 44, 45, 140, 141, 2, 142, 143, 144, 145, 146, 147, 148, 149, 150, 151, 152, 153, 154, 155, 156, 157, 158, 159, 160, 161, 162, 163, 164, 165, 113, 114, 108, 109, 110, 19, 111, 50, 678, 679, 680, 681, 682, 683, 684, 685, 686, 687, 705, 706, 707, 708] (by decide +kernel) (by decide +kernel)
set_option maxRecDepth 20000 in
theorem gL_law_X7_arrow : GoodIn wsL_law (wsV RL 18 RX7 yX7_arrow wsX7_arrow) := goodIn_app (goodIn_of _ (by decide +kernel)) ggL_law_X7_arrow
set_option maxRecDepth 20000 in
theorem ggL_law_X8_arrow : GoodIn wsL_law wsX8_arrow := goodIn_r _ [169, 86, 170, 171, 172, 5, 173, 119, 174, 175, 176, 177, 178, 179, 180, 181, 182, 183, 184, 185, 120, 121, 122, 123, 87, 688, 689, 690, 691, 692, 693, 694, 695, 696, 697, 698, 699, 700, 701, 702, 703, 704] (by decide +kernel) (by decide +kernel)
set_option maxRecDepth 20000 in
theorem gL_law_X8_arrow : GoodIn wsL_law (wsV RL 22 RX8 yX8_arrow wsX8_arrow) := goodIn_app (goodIn_of _ (by decide +kernel)) ggL_law_X8_arrow
set_option maxRecDepth 20000 in
theorem ggL_law_X7_cut : GoodIn wsL_law wsX7_cut := goodIn_r _ [189, 15, 20, 190, 191, 192, 14, 193, 45, 140, 129, 130, 131, 46, 141, 2, 142, 194, 195, 196, 197, 44, 113, 114, 108, 109, 110, 19, 111, 50, 678, 679, 680, 681, 682, 683, 684, 685, 686, 687, 705, 706, 707, 708] (by decide +kernel) (by decide +kernel)
set_option maxRecDepth 20000 in
theorem gL_law_X7_cut : GoodIn wsL_law (wsV RL 23 RX7 yX7_cut wsX7_cut) := goodIn_app (goodIn_of _ (by decide +kernel)) ggL_law_X7_cut
set_option maxRecDepth 20000 in
theorem ggL_law_X8_cut : GoodIn wsL_law wsX8_cut := goodIn_r _ [201, 86, 174, 175, 176, 5, 177, 170, 171, 172, 173, 119, 120, 121, 122, 123, 87, 688, 689, 690, 691, 692, 693, 694, 695, 696, 697, 698, 699, 700, 701, 702, 703, 704] (by decide +kernel) (by decide +kernel)
set_option maxRecDepth 20000 in
theorem gL_law_X8_cut : GoodIn wsL_law (wsV RL 26 RX8 yX8_cut wsX8_cut) := goodIn_app (goodIn_of _ (by decide +kernel)) ggL_law_X8_cut
set_option maxRecDepth 20000 in
theorem ggL_law_X7_turn : GoodIn wsL_law wsX7_turn := goodIn_r _ [205, 15, 20, 190, 191, 192, 14, 193, 45, 140, 129, 130, 131, 46, 141, 2, 142, 194, 195, 196, 197, 44, 113, 114, 132, 133, 134, 135, 136, 137, 138, 139, 143, 144, 145, 146, 147, 148, 149, 150, 151, 152, 153, 154, 155, 156, 157, 158, 159, 160, 161, 162, 163, 164, 165, 108, 109, 110, 19, 111, 50, 678, 679, 680, 681, 682, 683, 684, 685, 686, 687, 705, 706, 707, 708] (by decide +kernel) (by decide +kernel)
set_option maxRecDepth 20000 in
theorem gL_law_X7_turn : GoodIn wsL_law (wsV RL 27 RX7 yX7_turn wsX7_turn) := goodIn_app (goodIn_of _ (by decide +kernel)) ggL_law_X7_turn
set_option maxRecDepth 20000 in
theorem ggL_law_X8_turn : GoodIn wsL_law wsX8_turn := goodIn_r _ [209, 86, 174, 175, 176, 5, 177, 170, 171, 172, 173, 119, 178, 179, 180, 181, 182, 183, 184, 185, 120, 121, 122, 123, 87, 688, 689, 690, 691, 692, 693, 694, 695, 696, 697, 698, 699, 700, 701, 702, 703, 704] (by decide +kernel) (by decide +kernel)
set_option maxRecDepth 20000 in
theorem gL_law_X8_turn : GoodIn wsL_law (wsV RL 30 RX8 yX8_turn wsX8_turn) := goodIn_app (goodIn_of _ (by decide +kernel)) ggL_law_X8_turn
set_option maxRecDepth 20000 in
theorem ggL_law_X7_book : GoodIn wsL_law wsX7_book := goodIn_r _ [213, 20, 214, 215, 216, 2, 217, 15, 128, 129, 130, 14, 131, 46, 218, 219, 220, 221, 44, 140, 222, 223, 224, 225, 226, 227, 228, 229, 230, 231, 232, 233, 234, 19, 235, 50, 236, 237, 238, 678, 679, 680, 681, 682, 683, 684, 685, 686, 687, 705, 706, 707, 708] (by decide +kernel) (by decide +kernel)
set_option maxRecDepth 20000 in
theorem gL_law_X7_book : GoodIn wsL_law (wsV RL 31 RX7 yX7_book wsX7_book) := goodIn_app (goodIn_of _ (by decide +kernel)) ggL_law_X7_book
set_option maxRecDepth 20000 in
theorem ggL_law_X8_book : GoodIn wsL_law wsX8_book := goodIn_r _ [242, 87, 243, 244, 245, 5, 246, 86, 170, 171, 172, 173, 119, 247, 248, 249, 688, 689, 690, 691, 692, 693, 694, 695, 696, 697, 698, 699, 700, 701, 702, 703, 704] (by decide +kernel) (by decide +kernel)
set_option maxRecDepth 20000 in
theorem gL_law_X8_book : GoodIn wsL_law (wsV RL 35 RX8 yX8_book wsX8_book) := goodIn_app (goodIn_of _ (by decide +kernel)) ggL_law_X8_book
set_option maxRecDepth 20000 in
theorem ggL_law_X7_booked : GoodIn wsL_law wsX7_booked := goodIn_r _ [253, 20, 214, 215, 216, 2, 217, 15, 128, 129, 130, 14, 131, 46, 218, 219, 220, 221, 44, 140, 222, 223, 224, 225, 226, 227, 228, 229, 230, 231, 254, 255, 256, 19, 257, 50, 236, 237, 238, 678, 679, 680, 681, 682, 683, 684, 685, 686, 687, 705, 706, 707, 708] (by decide +kernel) (by decide +kernel)
set_option maxRecDepth 20000 in
theorem gL_law_X7_booked : GoodIn wsL_law (wsV RL 36 RX7 yX7_booked wsX7_booked) := goodIn_app (goodIn_of _ (by decide +kernel)) ggL_law_X7_booked
set_option maxRecDepth 20000 in
theorem ggL_law_X8_booked : GoodIn wsL_law wsX8_booked := goodIn_r _ [261, 87, 243, 244, 245, 5, 246, 86, 170, 171, 172, 173, 119, 247, 248, 249, 688, 689, 690, 691, 692, 693, 694, 695, 696, 697, 698, 699, 700, 701, 702, 703, 704] (by decide +kernel) (by decide +kernel)
set_option maxRecDepth 20000 in
theorem gL_law_X8_booked : GoodIn wsL_law (wsV RL 40 RX8 yX8_booked wsX8_booked) := goodIn_app (goodIn_of _ (by decide +kernel)) ggL_law_X8_booked
set_option maxRecDepth 20000 in
theorem ggL_law_X7_told : GoodIn wsL_law wsX7_told := goodIn_r _ [265, 15, 37, 128, 129, 130, 14, 131, 46, 266, 141, 2, 142, 218, 219, 220, 221, 44, 140, 267, 148, 149, 150, 45, 268, 144, 145, 146, 147, 151, 152, 153, 154, 155, 156, 157, 158, 159, 160, 161, 678, 679, 680, 681, 682, 683, 684, 685, 686, 687, 705, 706, 707] (by decide +kernel) (by decide +kernel)
set_option maxRecDepth 20000 in
theorem gL_law_X7_told : GoodIn wsL_law (wsV RL 41 RX7 yX7_told wsX7_told) := goodIn_app (goodIn_of _ (by decide +kernel)) ggL_law_X7_told
set_option maxRecDepth 20000 in
theorem ggL_law_X8_told : GoodIn wsL_law wsX8_told := goodIn_r _ [272, 85, 86, 119, 170, 171, 172, 5, 173, 174, 175, 176, 177, 178, 179, 180, 181, 182, 183, 184, 185, 688, 689, 690, 691, 692, 693, 694, 695, 696, 697, 698, 699, 700, 701, 702, 703, 704] (by decide +kernel) (by decide +kernel)
set_option maxRecDepth 20000 in
theorem gL_law_X8_told : GoodIn wsL_law (wsV RL 44 RX8 yX8_told wsX8_told) := goodIn_app (goodIn_of _ (by decide +kernel)) ggL_law_X8_told
set_option maxRecDepth 20000 in
theorem ggL_law_X7_weight : GoodIn wsL_law wsX7_weight := goodIn_r _ [276, 277, 24, 15, 20, 278, 279, 280, 2, 281, 282, 283, 284, 285, 286, 287, 288, 289, 290, 291, 14, 292, 46, 293, 294, 295, 296, 297, 298, 23, 299, 56, 55, 300, 301, 302, 303, 304, 305, 306, 307, 308, 44, 141, 142, 223, 224, 225, 226, 227, 228, 229, 230, 231, 113, 114, 309, 310, 311, 19, 312, 313, 219, 220, 221, 140, 129, 130, 131, 314, 315, 316, 317, 255, 256, 257, 50, 236, 237, 238, 318, 319, 320, 321, 322, 323, 324, 325, 326, 327, 678, 679, 680, 681, 682, 683, 684, 685, 686, 687, 705, 706, 707, 709, 710, 708] (by decide +kernel) (by decide +kernel)
set_option maxRecDepth 20000 in
theorem gL_law_X7_weight : GoodIn wsL_law (wsV RL 45 RX7 yX7_weight wsX7_weight) := goodIn_app (goodIn_of _ (by decide +kernel)) ggL_law_X7_weight
set_option maxRecDepth 20000 in
theorem ggL_law_X8_weight : GoodIn wsL_law wsX8_weight := goodIn_r _ [331, 332, 333, 334, 335, 5, 336, 337, 338, 339, 340, 341, 119, 342, 343, 344, 345, 346, 347, 348, 349, 350, 351, 352, 353, 354, 86, 87, 688, 689, 690, 691, 692, 693, 694, 695, 696, 697, 698, 699, 700, 701, 702, 703, 704] (by decide +kernel) (by decide +kernel)
set_option maxRecDepth 20000 in
theorem gL_law_X8_weight : GoodIn wsL_law (wsV RL 49 RX8 yX8_weight wsX8_weight) := goodIn_app (goodIn_of _ (by decide +kernel)) ggL_law_X8_weight
set_option maxRecDepth 20000 in
theorem ggL_law_X7_chance : GoodIn wsL_law wsX7_chance := goodIn_r _ [358, 38, 39, 24, 15, 20, 278, 279, 280, 2, 281, 282, 283, 284, 285, 286, 287, 288, 289, 290, 291, 14, 292, 46, 293, 294, 295, 296, 297, 298, 23, 299, 56, 55, 300, 301, 302, 303, 304, 305, 306, 307, 308, 44, 141, 142, 223, 224, 225, 226, 227, 228, 229, 230, 231, 113, 114, 309, 310, 311, 19, 312, 313, 219, 220, 221, 140, 129, 130, 131, 314, 315, 316, 317, 255, 256, 257, 50, 236, 237, 238, 318, 319, 320, 321, 322, 323, 324, 325, 326, 327, 359, 360, 361, 362, 363, 364, 365, 366, 367, 368, 678, 679, 680, 681, 682, 683, 684, 685, 686, 687, 705, 706, 707, 709, 710, 708] (by decide +kernel) (by decide +kernel)
set_option maxRecDepth 20000 in
theorem gL_law_X7_chance : GoodIn wsL_law (wsV RL 50 RX7 yX7_chance wsX7_chance) := goodIn_app (goodIn_of _ (by decide +kernel)) ggL_law_X7_chance
set_option maxRecDepth 20000 in
theorem ggL_law_X8_chance : GoodIn wsL_law wsX8_chance := goodIn_r _ [372, 373, 88, 119, 333, 334, 335, 5, 336, 337, 338, 339, 340, 341, 342, 343, 344, 345, 346, 347, 348, 349, 350, 351, 352, 353, 354, 86, 87, 374, 375, 376, 688, 689, 690, 691, 692, 693, 694, 695, 696, 697, 698, 699, 700, 701, 702, 703, 704] (by decide +kernel) (by decide +kernel)
set_option maxRecDepth 20000 in
theorem gL_law_X8_chance : GoodIn wsL_law (wsV RL 54 RX8 yX8_chance wsX8_chance) := goodIn_app (goodIn_of _ (by decide +kernel)) ggL_law_X8_chance
set_option maxRecDepth 20000 in
theorem ggL_law_X7_above : GoodIn wsL_law wsX7_above := goodIn_r _ [380, 38, 678, 679, 680, 681, 682, 683, 684, 685, 686, 687] (by decide +kernel) (by decide +kernel)
set_option maxRecDepth 20000 in
theorem gL_law_X7_above : GoodIn wsL_law (wsV RL 55 RX7 yX7_above wsX7_above) := goodIn_app (goodIn_of _ (by decide +kernel)) ggL_law_X7_above
set_option maxRecDepth 20000 in
theorem ggL_law_X8_above : GoodIn wsL_law wsX8_above := goodIn_r _ [384, 373, 688, 689, 690, 691, 692, 693, 694, 695, 696, 697, 698, 699, 700, 701, 702, 703, 704] (by decide +kernel) (by decide +kernel)
set_option maxRecDepth 20000 in
theorem gL_law_X8_above : GoodIn wsL_law (wsV RL 59 RX8 yX8_above wsX8_above) := goodIn_app (goodIn_of _ (by decide +kernel)) ggL_law_X8_above
set_option maxRecDepth 20000 in
theorem ggL_law_X7_below : GoodIn wsL_law wsX7_below := goodIn_r _ [388, 39, 678, 679, 680, 681, 682, 683, 684, 685, 686, 687] (by decide +kernel) (by decide +kernel)
set_option maxRecDepth 20000 in
theorem gL_law_X7_below : GoodIn wsL_law (wsV RL 60 RX7 yX7_below wsX7_below) := goodIn_app (goodIn_of _ (by decide +kernel)) ggL_law_X7_below
set_option maxRecDepth 20000 in
theorem ggL_law_X8_below : GoodIn wsL_law wsX8_below := goodIn_r _ [392, 88, 688, 689, 690, 691, 692, 693, 694, 695, 696, 697, 698, 699, 700, 701, 702, 703, 704] (by decide +kernel) (by decide +kernel)
set_option maxRecDepth 20000 in
theorem gL_law_X8_below : GoodIn wsL_law (wsV RL 63 RX8 yX8_below wsX8_below) := goodIn_app (goodIn_of _ (by decide +kernel)) ggL_law_X8_below
set_option maxRecDepth 20000 in
theorem ggL_law_X7_bars : GoodIn wsL_law wsX7_bars := goodIn_r _ [396, 15, 285, 286, 287, 2, 288, 289, 290, 291, 14, 292, 46, 397, 398, 399, 400, 44, 45, 155, 156, 157, 158, 159, 160, 161, 141, 142, 678, 679, 680, 681, 682, 683, 684, 685, 686, 687, 705, 706, 707] (by decide +kernel) (by decide +kernel)
set_option maxRecDepth 20000 in
theorem gL_law_X7_bars : GoodIn wsL_law (wsV RL 64 RX7 yX7_bars wsX7_bars) := goodIn_app (goodIn_of _ (by decide +kernel)) ggL_law_X7_bars
set_option maxRecDepth 20000 in
theorem ggL_law_X8_bars : GoodIn wsL_law wsX8_bars := goodIn_r _ [404, 338, 339, 340, 5, 341, 119, 405, 406, 407, 408, 409, 410, 411, 412, 89, 90, 413, 414, 415, 416, 182, 183, 184, 185, 86, 417, 418, 419, 420, 421, 422, 423, 424, 688, 689, 690, 691, 692, 693, 694, 695, 696, 697, 698, 699, 700, 701, 702, 703, 704] (by decide +kernel) (by decide +kernel)
set_option maxRecDepth 20000 in
theorem gL_law_X8_bars : GoodIn wsL_law (wsV RL 67 RX8 yX8_bars wsX8_bars) := goodIn_app (goodIn_of _ (by decide +kernel)) ggL_law_X8_bars
set_option maxRecDepth 20000 in
theorem ggL_law_X7_least : GoodIn wsL_law wsX7_least := goodIn_r _ [428, 32, 15, 37, 429, 430, 431, 2, 432, 128, 129, 130, 14, 131, 46, 433, 434, 435, 31, 436, 75, 74, 113, 114, 223, 224, 225, 226, 227, 228, 229, 230, 231, 437, 438, 439, 440, 441, 398, 399, 400, 44, 45, 155, 156, 157, 158, 159, 160, 161, 141, 142, 322, 323, 442, 443, 444, 445, 678, 679, 680, 681, 682, 683, 684, 685, 686, 687, 705, 706, 707, 714, 715] (by decide +kernel) (by decide +kernel)
set_option maxRecDepth 20000 in
theorem gL_law_X7_least : GoodIn wsL_law (wsV RL 68 RX7 yX7_least wsX7_least) := goodIn_app (goodIn_of _ (by decide +kernel)) ggL_law_X7_least
set_option maxRecDepth 20000 in
theorem ggL_law_X8_least : GoodIn wsL_law wsX8_least := goodIn_r _ [449, 450, 451, 452, 5, 453, 91, 170, 171, 172, 173, 119, 454, 455, 456, 457, 85, 405, 406, 407, 408, 409, 410, 411, 412, 89, 90, 413, 414, 415, 416, 182, 183, 184, 185, 86, 417, 418, 419, 420, 421, 422, 423, 424, 458, 459, 460, 461, 688, 689, 690, 691, 692, 693, 694, 695, 696, 697, 698, 699, 700, 701, 702, 703, 704] (by decide +kernel) (by decide +kernel)
set_option maxRecDepth 20000 in
theorem gL_law_X8_least : GoodIn wsL_law (wsV RL 71 RX8 yX8_least wsX8_least) := goodIn_app (goodIn_of _ (by decide +kernel)) ggL_law_X8_least
set_option maxRecDepth 20000 in
theorem ggL_law_X7_leastAt : GoodIn wsL_law wsX7_leastAt := goodIn_r _ [465, 32, 15, 37, 429, 430, 431, 2, 432, 128, 129, 130, 14, 131, 46, 433, 434, 435, 31, 436, 75, 74, 113, 114, 223, 224, 225, 226, 227, 228, 229, 230, 231, 437, 438, 439, 440, 441, 398, 399, 400, 44, 45, 155, 156, 157, 158, 159, 160, 161, 141, 142, 322, 323, 466, 467, 468, 469, 678, 679, 680, 681, 682, 683, 684, 685, 686, 687, 705, 706, 707, 714, 715] (by decide +kernel) (by decide +kernel)
set_option maxRecDepth 20000 in
theorem gL_law_X7_leastAt : GoodIn wsL_law (wsV RL 72 RX7 yX7_leastAt wsX7_leastAt) := goodIn_app (goodIn_of _ (by decide +kernel)) ggL_law_X7_leastAt
set_option maxRecDepth 20000 in
theorem ggL_law_X8_leastAt : GoodIn wsL_law wsX8_leastAt := goodIn_r _ [473, 450, 451, 452, 5, 453, 91, 170, 171, 172, 173, 119, 454, 455, 456, 457, 85, 405, 406, 407, 408, 409, 410, 411, 412, 89, 90, 413, 414, 415, 416, 182, 183, 184, 185, 86, 417, 418, 419, 420, 421, 422, 423, 424, 458, 459, 460, 461, 688, 689, 690, 691, 692, 693, 694, 695, 696, 697, 698, 699, 700, 701, 702, 703, 704] (by decide +kernel) (by decide +kernel)
set_option maxRecDepth 20000 in
theorem gL_law_X8_leastAt : GoodIn wsL_law (wsV RL 75 RX8 yX8_leastAt wsX8_leastAt) := goodIn_app (goodIn_of _ (by decide +kernel)) ggL_law_X8_leastAt
set_option maxRecDepth 20000 in
theorem ggL_law_X7_fit : GoodIn wsL_law wsX7_fit := goodIn_r _ [477, 37, 15, 16, 429, 430, 431, 2, 432, 128, 129, 130, 14, 131, 46, 285, 286, 287, 288, 289, 290, 291, 292, 266, 141, 142, 268, 144, 145, 146, 147, 148, 149, 150, 45, 140, 151, 152, 153, 154, 155, 156, 157, 158, 159, 160, 161, 112, 113, 114, 397, 398, 399, 400, 44, 478, 479, 480, 481, 143, 482, 483, 484, 485, 486, 678, 679, 680, 681, 682, 683, 684, 685, 686, 687, 705, 706, 707] (by decide +kernel) (by decide +kernel)
set_option maxRecDepth 20000 in
theorem gL_law_X7_fit : GoodIn wsL_law (wsV RL 76 RX7 yX7_fit wsX7_fit) := goodIn_app (goodIn_of _ (by decide +kernel)) ggL_law_X7_fit
set_option maxRecDepth 20000 in
theorem ggL_law_X8_fit : GoodIn wsL_law wsX8_fit := goodIn_r _ [490, 119, 170, 171, 172, 5, 173, 338, 339, 340, 341, 454, 455, 456, 457, 85, 178, 179, 180, 181, 182, 183, 184, 185, 86, 405, 406, 407, 408, 409, 410, 411, 412, 89, 90, 413, 414, 415, 416, 417, 418, 419, 420, 421, 422, 423, 424, 688, 689, 690, 691, 692, 693, 694, 695, 696, 697, 698, 699, 700, 701, 702, 703, 704] (by decide +kernel) (by decide +kernel)
set_option maxRecDepth 20000 in
theorem gL_law_X8_fit : GoodIn wsL_law (wsV RL 79 RX8 yX8_fit wsX8_fit) := goodIn_app (goodIn_of _ (by decide +kernel)) ggL_law_X8_fit
set_option maxRecDepth 20000 in
theorem ggL_law_X7_agrees : GoodIn wsL_law wsX7_agrees := goodIn_r _ [494, 15, 24, 20, 28, 128, 129, 130, 14, 131, 46, 285, 286, 287, 2, 288, 289, 290, 291, 292, 266, 141, 142, 495, 496, 497, 498, 499, 500, 112, 113, 114, 296, 297, 298, 23, 299, 56, 55, 300, 301, 302, 303, 304, 305, 306, 307, 308, 44, 223, 224, 225, 226, 227, 228, 229, 230, 231, 309, 310, 311, 19, 312, 283, 284, 294, 295, 313, 219, 220, 221, 140, 314, 315, 316, 317, 255, 256, 257, 50, 236, 237, 238, 318, 319, 320, 321, 322, 323, 293, 324, 325, 326, 327, 501, 502, 503, 504, 505, 506, 507, 27, 508, 63, 64, 509, 510, 511, 62, 512, 70, 69, 513, 514, 515, 516, 222, 282, 359, 360, 361, 517, 518, 519, 520, 65, 363, 364, 365, 366, 367, 368, 521, 522, 523, 524, 525, 526, 527, 528, 529, 530, 531, 532, 533, 534, 535, 536, 537, 538, 539, 540, 541, 542, 543, 544, 545, 546, 547, 548, 678, 679, 680, 681, 682, 683, 684, 685, 686, 687, 705, 706, 707, 709, 710, 708, 711, 712, 713, 717, 718] (by decide +kernel) (by decide +kernel)
set_option maxRecDepth 20000 in
theorem gL_law_X7_agrees : GoodIn wsL_law (wsV RL 80 RX7 yX7_agrees wsX7_agrees) := goodIn_app (goodIn_of _ (by decide +kernel)) ggL_law_X7_agrees
set_option maxRecDepth 20000 in
theorem ggL_law_X8_agrees : GoodIn wsL_law wsX8_agrees := goodIn_r _ [552, 92, 93, 553, 554, 94, 170, 171, 172, 5, 173, 119, 338, 339, 340, 341, 555, 556, 557, 342, 343, 344, 345, 346, 347, 348, 349, 350, 351, 352, 353, 354, 86, 87, 374, 375, 376, 558, 559, 560, 561, 562, 563, 564, 565, 566, 688, 689, 690, 691, 692, 693, 694, 695, 696, 697, 698, 699, 700, 701, 702, 703, 704] (by decide +kernel) (by decide +kernel)
set_option maxRecDepth 20000 in
theorem gL_law_X8_agrees : GoodIn wsL_law (wsV RL 84 RX8 yX8_agrees wsX8_agrees) := goodIn_app (goodIn_of _ (by decide +kernel)) ggL_law_X8_agrees
set_option maxRecDepth 20000 in
theorem ggL_law_X7_alike : GoodIn wsL_law wsX7_alike := goodIn_r _ [570, 36, 15, 571, 572, 573, 35, 574, 79, 575, 290, 291, 14, 292, 46, 576, 577, 578, 579, 302, 303, 304, 141, 2, 142, 580, 137, 138, 139, 44, 45, 140, 129, 130, 131, 581, 582, 583, 584, 585, 219, 220, 221, 586, 587, 588, 589, 136, 113, 114, 590, 591, 592, 593, 223, 224, 225, 226, 227, 228, 229, 230, 231, 322, 323, 594, 595, 596, 597, 598, 678, 679, 680, 681, 682, 683, 684, 685, 686, 687, 716, 705, 706, 707] (by decide +kernel) (by decide +kernel)
set_option maxRecDepth 20000 in
theorem gL_law_X7_alike : GoodIn wsL_law (wsV RL 85 RX7 yX7_alike wsX7_alike) := goodIn_app (goodIn_of _ (by decide +kernel)) ggL_law_X7_alike
set_option maxRecDepth 20000 in
theorem ggL_law_X8_alike : GoodIn wsL_law wsX8_alike := goodIn_r _ [602, 603, 604, 605, 5, 606, 119, 99, 86, 98, 96, 97, 95, 174, 175, 176, 177, 170, 171, 172, 173, 607, 608, 609, 610, 611, 612, 613, 614, 688, 689, 690, 691, 692, 693, 694, 695, 696, 697, 698, 699, 700, 701, 702, 703, 704] (by decide +kernel) (by decide +kernel)
set_option maxRecDepth 20000 in
theorem gL_law_X8_alike : GoodIn wsL_law (wsV RL 89 RX8 yX8_alike wsX8_alike) := goodIn_app (goodIn_of _ (by decide +kernel)) ggL_law_X8_alike
set_option maxRecDepth 20000 in
theorem ggL_law_X7_fixed : GoodIn wsL_law wsX7_fixed := goodIn_r _ [618, 15, 36, 190, 191, 192, 14, 193, 45, 140, 129, 130, 131, 46, 141, 2, 142, 571, 572, 573, 35, 574, 79, 575, 290, 291, 292, 576, 577, 578, 579, 302, 303, 304, 580, 137, 138, 139, 44, 581, 582, 583, 584, 585, 219, 220, 221, 586, 587, 588, 589, 136, 113, 114, 590, 591, 592, 593, 223, 224, 225, 226, 227, 228, 229, 230, 231, 322, 323, 594, 595, 596, 597, 598, 678, 679, 680, 681, 682, 683, 684, 685, 686, 687, 705, 706, 707, 716] (by decide +kernel) (by decide +kernel)
set_option maxRecDepth 20000 in
theorem gL_law_X7_fixed : GoodIn wsL_law (wsV RL 90 RX7 yX7_fixed wsX7_fixed) := goodIn_app (goodIn_of _ (by decide +kernel)) ggL_law_X7_fixed
set_option maxRecDepth 20000 in
theorem ggL_law_X8_fixed : GoodIn wsL_law wsX8_fixed := goodIn_r _ [622, 98, 174, 175, 176, 5, 177, 86, 170, 171, 172, 173, 119, 603, 604, 605, 606, 99, 96, 97, 95, 607, 608, 609, 610, 611, 612, 613, 614, 688, 689, 690, 691, 692, 693, 694, 695, 696, 697, 698, 699, 700, 701, 702, 703, 704] (by decide +kernel) (by decide +kernel)
set_option maxRecDepth 20000 in
theorem gL_law_X8_fixed : GoodIn wsL_law (wsV RL 93 RX8 yX8_fixed wsX8_fixed) := goodIn_app (goodIn_of _ (by decide +kernel)) ggL_law_X8_fixed
set_option maxRecDepth 20000 in
theorem ggL_law_X7_otherwise : GoodIn wsL_law wsX7_otherwise := goodIn_r _ [626, 277, 24, 15, 20, 365, 366, 367, 368, 429, 430, 431, 2, 432, 128, 129, 130, 14, 131, 46, 498, 499, 500, 112, 113, 114, 296, 297, 298, 23, 299, 56, 55, 300, 290, 291, 292, 301, 302, 303, 304, 305, 306, 307, 308, 44, 141, 142, 223, 224, 225, 226, 227, 228, 229, 230, 231, 309, 310, 311, 19, 312, 283, 284, 294, 295, 313, 219, 220, 221, 140, 314, 315, 316, 317, 255, 256, 257, 50, 236, 237, 238, 318, 319, 320, 321, 322, 323, 324, 325, 326, 327, 627, 628, 629, 630, 631, 632, 633, 634, 635, 636, 637, 638, 639, 640, 641, 678, 679, 680, 681, 682, 683, 684, 685, 686, 687, 705, 706, 707, 709, 710, 708] (by decide +kernel) (by decide +kernel)
set_option maxRecDepth 20000 in
theorem gL_law_X7_otherwise : GoodIn wsL_law (wsV RL 94 RX7 yX7_otherwise wsX7_otherwise) := goodIn_app (goodIn_of _ (by decide +kernel)) ggL_law_X7_otherwise
set_option maxRecDepth 20000 in
theorem ggL_law_X8_otherwise : GoodIn wsL_law wsX8_otherwise := goodIn_r _ [645, 332, 119, 350, 170, 171, 172, 5, 173, 555, 556, 557, 342, 343, 344, 345, 346, 347, 348, 349, 351, 352, 353, 354, 86, 87, 646, 647, 648, 649, 650, 651, 688, 689, 690, 691, 692, 693, 694, 695, 696, 697, 698, 699, 700, 701, 702, 703, 704] (by decide +kernel) (by decide +kernel)
set_option maxRecDepth 20000 in
theorem gL_law_X8_otherwise : GoodIn wsL_law (wsV RL 98 RX8 yX8_otherwise wsX8_otherwise) := goodIn_app (goodIn_of _ (by decide +kernel)) ggL_law_X8_otherwise
set_option maxRecDepth 20000 in
theorem ggL_law_X7_draw : GoodIn wsL_law wsX7_draw := goodIn_r _ [655, 15, 656, 20, 278, 279, 280, 2, 281, 282, 283, 284, 285, 286, 287, 288, 289, 290, 291, 14, 292, 46, 293, 294, 295, 657, 302, 303, 304, 658, 306, 307, 308, 44, 141, 142, 659, 310, 311, 19, 312, 313, 219, 220, 221, 140, 129, 130, 131, 314, 315, 316, 317, 255, 256, 257, 50, 236, 237, 238, 112, 113, 114, 678, 679, 680, 681, 682, 683, 684, 685, 686, 687, 705, 706, 707, 708] (by decide +kernel) (by decide +kernel)
set_option maxRecDepth 20000 in
theorem gL_law_X7_draw : GoodIn wsL_law (wsV RL 99 RX7 yX7_draw wsX7_draw) := goodIn_app (goodIn_of _ (by decide +kernel)) ggL_law_X7_draw
set_option maxRecDepth 20000 in
theorem ggL_law_X8_draw : GoodIn wsL_law wsX8_draw := goodIn_r _ [663, 119, 86, 664, 333, 334, 335, 5, 336, 337, 338, 339, 340, 341, 351, 352, 353, 354, 87, 688, 689, 690, 691, 692, 693, 694, 695, 696, 697, 698, 699, 700, 701, 702, 703, 704] (by decide +kernel) (by decide +kernel)
set_option maxRecDepth 20000 in
theorem gL_law_X8_draw : GoodIn wsL_law (wsV RL 102 RX8 yX8_draw wsX8_draw) := goodIn_app (goodIn_of _ (by decide +kernel)) ggL_law_X8_draw
set_option maxRecDepth 20000 in
theorem ggL_law_X7_count : GoodIn wsL_law wsX7_count := goodIn_r _ [668, 15, 37, 657, 302, 303, 14, 304, 46, 669, 670, 671, 672, 44, 673, 226, 227, 228, 229, 230, 231, 678, 679, 680, 681, 682, 683, 684, 685, 686, 687, 705, 706, 707] (by decide +kernel) (by decide +kernel)
set_option maxRecDepth 20000 in
theorem gL_law_X7_count : GoodIn wsL_law (wsV RL 103 RX7 yX7_count wsX7_count) := goodIn_app (goodIn_of _ (by decide +kernel)) ggL_law_X7_count
set_option maxRecDepth 20000 in
theorem ggL_law_X8_count : GoodIn wsL_law wsX8_count := goodIn_r _ [677, 119, 86, 247, 248, 5, 249, 454, 455, 456, 457, 85, 688, 689, 690, 691, 692, 693, 694, 695, 696, 697, 698, 699, 700, 701, 702, 703, 704] (by decide +kernel) (by decide +kernel)
set_option maxRecDepth 20000 in
theorem gL_law_X8_count : GoodIn wsL_law (wsV RL 107 RX8 yX8_count wsX8_count) := goodIn_app (goodIn_of _ (by decide +kernel)) ggL_law_X8_count
