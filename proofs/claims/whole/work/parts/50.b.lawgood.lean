set_option maxRecDepth 20000 in
theorem ggL_law_X6_init : GoodIn wsL_law wsX6_init := goodIn_r _ [8, 9, 10, 11, 12, 13, 14, 15, 16, 17, 18, 19, 20, 21, 22, 23, 24, 25, 26, 27, 28, 29, 30, 31, 32, 33, 34, 35, 36, 37, 38, 39, 40, 41, 42, 43, 44, 45, 46, 47, 48, 49, 50, 51, 52, 53, 54, 55, 56, 57, 58, 59, 60, 61, 62, 63, 64, 65, 66, 67, 68, 69, 70, 71, 72, 73, 74, 75, 76, 77, 78, 79, 80, 81, 82, 630, 631, 632, 633, 634, 635, 636, 637, 598, 599, 600, 601, 602, 603, 604, 638, 639, 640, 641, 642, 643, 644, 645, 646, 647, 648, 649, 650, 651, 652, 653, 654, 655] rfl (by decide +kernel)
set_option maxRecDepth 20000 in
theorem gL_law_X6_init : GoodIn wsL_law (wsX6_init) := ggL_law_X6_init
set_option maxRecDepth 20000 in
theorem ggL_law_X7_init : GoodIn wsL_law wsX7_init := goodIn_r _ [85, 86, 10, 11, 87, 88, 44, 89, 90, 91, 92, 93, 94, 95, 96, 97, 98, 99, 100, 58, 101, 102, 103, 104, 105, 106, 107, 605, 606, 607, 608, 609, 610, 611, 612, 613, 614, 615, 616, 617, 618, 619, 620, 621, 622, 623, 624, 625, 626, 627, 628, 629] rfl (by decide +kernel)
set_option maxRecDepth 20000 in
theorem gL_law_X7_init : GoodIn wsL_law (wsX7_init) := ggL_law_X7_init
set_option maxRecDepth 20000 in
theorem ggL_law_X6_machine : GoodIn wsL_law wsX6_machine := goodIn_r _ [111, 15, 19, 34, 112, 113, 114, 14, 115, 40, 41, 42, 43, 116, 117, 118, 18, 119, 52, 53, 598, 599, 600, 601, 602, 603, 604, 630, 631, 632, 633, 634, 635, 636, 637, 638, 639, 640] rfl (by decide +kernel)
set_option maxRecDepth 20000 in
theorem gL_law_X6_machine : GoodIn wsL_law (wsV RL 13 RX6 yX6_machine wsX6_machine) := goodIn_app (goodIn_of _ (by decide +kernel)) ggL_law_X6_machine
set_option maxRecDepth 20000 in
theorem ggL_law_X7_machine : GoodIn wsL_law wsX7_machine := goodIn_r _ [123, 124, 125, 87, 88, 126, 127, 128, 129, 130, 5, 131, 605, 606, 607, 608, 609, 610, 611, 612, 613, 614, 615, 616, 617, 618, 619, 620, 621, 622, 623, 624, 625, 626, 627, 628, 629] rfl (by decide +kernel)
set_option maxRecDepth 20000 in
theorem gL_law_X7_machine : GoodIn wsL_law (wsV RL 17 RX7 yX7_machine wsX7_machine) := goodIn_app (goodIn_of _ (by decide +kernel)) ggL_law_X7_machine
set_option maxRecDepth 20000 in
theorem ggL_law_X6_rule : GoodIn wsL_law wsX6_rule := goodIn_r _ [135, 15, 136, 137, 138, 14, 139, 40, 140, 141, 142, 143, 41, 144, 145, 2, 146, 147, 148, 149, 150, 45, 42, 46, 47, 48, 43, 598, 599, 600, 601, 602, 603, 604, 630, 631, 632, 633, 634, 635, 636, 637] rfl (by decide +kernel)
set_option maxRecDepth 20000 in
theorem gL_law_X6_rule : GoodIn wsL_law (wsV RL 18 RX6 yX6_rule wsX6_rule) := goodIn_app (goodIn_of _ (by decide +kernel)) ggL_law_X6_rule
set_option maxRecDepth 20000 in
theorem ggL_law_X7_rule : GoodIn wsL_law wsX7_rule := goodIn_r _ [154, 125, 89, 90, 91, 92, 93, 155, 156, 157, 5, 158, 87, 129, 130, 131, 159, 160, 161, 162, 88, 605, 606, 607, 608, 609, 610, 611, 612, 613, 614, 615, 616, 617, 618, 619, 620, 621, 622, 623, 624, 625, 626, 627, 628, 629] rfl (by decide +kernel)
set_option maxRecDepth 20000 in
theorem gL_law_X7_rule : GoodIn wsL_law (wsV RL 22 RX7 yX7_rule wsX7_rule) := goodIn_app (goodIn_of _ (by decide +kernel)) ggL_law_X7_rule
set_option maxRecDepth 20000 in
theorem ggL_law_X6_unrule : GoodIn wsL_law wsX6_unrule := goodIn_r _ [166, 15, 167, 168, 169, 14, 170, 42, 43, 598, 599, 600, 601, 602, 603, 604, 630, 631, 632, 633, 634, 635, 636, 637] rfl (by decide +kernel)
set_option maxRecDepth 20000 in
theorem gL_law_X6_unrule : GoodIn wsL_law (wsV RL 23 RX6 yX6_unrule wsX6_unrule) := goodIn_app (goodIn_of _ (by decide +kernel)) ggL_law_X6_unrule
set_option maxRecDepth 20000 in
theorem ggL_law_X7_unrule : GoodIn wsL_law wsX7_unrule := goodIn_r _ [174, 125, 605, 606, 607, 608, 609, 610, 611, 612, 613, 614, 615, 616, 617, 618, 619, 620, 621, 622, 623, 624, 625, 626, 627, 628, 629] rfl (by decide +kernel)
set_option maxRecDepth 20000 in
theorem gL_law_X7_unrule : GoodIn wsL_law (wsV RL 27 RX7 yX7_unrule wsX7_unrule) := goodIn_app (goodIn_of _ (by decide +kernel)) ggL_law_X7_unrule
set_option maxRecDepth 20000 in
theorem ggL_law_X6_stand : GoodIn wsL_law wsX6_stand := goodIn_r _ [178, 15, 19, 136, 137, 138, 14, 139, 40, 116, 117, 118, 18, 119, 52, 53, 598, 599, 600, 601, 602, 603, 604, 638, 639, 640, 630, 631, 632, 633, 634, 635, 636, 637] rfl (by decide +kernel)
set_option maxRecDepth 20000 in
theorem gL_law_X6_stand : GoodIn wsL_law (wsV RL 28 RX6 yX6_stand wsX6_stand) := goodIn_app (goodIn_of _ (by decide +kernel)) ggL_law_X6_stand
set_option maxRecDepth 20000 in
theorem ggL_law_X7_stand : GoodIn wsL_law wsX7_stand := goodIn_r _ [182, 127, 126, 155, 156, 157, 5, 158, 87, 129, 130, 131, 605, 606, 607, 608, 609, 610, 611, 612, 613, 614, 615, 616, 617, 618, 619, 620, 621, 622, 623, 624, 625, 626, 627, 628, 629] rfl (by decide +kernel)
set_option maxRecDepth 20000 in
theorem gL_law_X7_stand : GoodIn wsL_law (wsV RL 32 RX7 yX7_stand wsX7_stand) := goodIn_app (goodIn_of _ (by decide +kernel)) ggL_law_X7_stand
set_option maxRecDepth 20000 in
theorem ggL_law_X6_push : GoodIn wsL_law wsX6_push := goodIn_r _ [186, 15, 19, 140, 141, 142, 14, 143, 41, 187, 188, 189, 18, 190, 54, 53, 598, 599, 600, 601, 602, 603, 604, 638, 639, 640, 630, 631, 632, 633, 634, 635, 636, 637] rfl (by decide +kernel)
set_option maxRecDepth 20000 in
theorem gL_law_X6_push : GoodIn wsL_law (wsV RL 33 RX6 yX6_push wsX6_push) := goodIn_app (goodIn_of _ (by decide +kernel)) ggL_law_X6_push
set_option maxRecDepth 20000 in
theorem ggL_law_X7_push : GoodIn wsL_law wsX7_push := goodIn_r _ [194, 127, 94, 159, 160, 161, 5, 162, 88, 129, 130, 131, 605, 606, 607, 608, 609, 610, 611, 612, 613, 614, 615, 616, 617, 618, 619, 620, 621, 622, 623, 624, 625, 626, 627, 628, 629] rfl (by decide +kernel)
set_option maxRecDepth 20000 in
theorem gL_law_X7_push : GoodIn wsL_law (wsV RL 36 RX7 yX7_push wsX7_push) := goodIn_app (goodIn_of _ (by decide +kernel)) ggL_law_X7_push
set_option maxRecDepth 20000 in
theorem ggL_law_X6_at : GoodIn wsL_law wsX6_at := goodIn_r _ [198, 19, 598, 599, 600, 601, 602, 603, 604, 638, 639, 640] rfl (by decide +kernel)
set_option maxRecDepth 20000 in
theorem gL_law_X6_at : GoodIn wsL_law (wsV RL 37 RX6 yX6_at wsX6_at) := goodIn_app (goodIn_of _ (by decide +kernel)) ggL_law_X6_at
set_option maxRecDepth 20000 in
theorem ggL_law_X7_at : GoodIn wsL_law wsX7_at := goodIn_r _ [202, 126, 127, 94, 129, 130, 5, 131, 605, 606, 607, 608, 609, 610, 611, 612, 613, 614, 615, 616, 617, 618, 619, 620, 621, 622, 623, 624, 625, 626, 627, 628, 629] rfl (by decide +kernel)
set_option maxRecDepth 20000 in
theorem gL_law_X7_at : GoodIn wsL_law (wsV RL 40 RX7 yX7_at wsX7_at) := goodIn_app (goodIn_of _ (by decide +kernel)) ggL_law_X7_at
set_option maxRecDepth 20000 in
theorem ggL_law_X6_go : GoodIn wsL_law wsX6_go := goodIn_r _ [206, 15, 19, 207, 208, 209, 18, 210, 53, 52, 54, 145, 2, 146, 211, 212, 213, 214, 215, 216, 217, 218, 219, 188, 189, 190, 598, 599, 600, 601, 602, 603, 604, 630, 631, 632, 633, 634, 635, 636, 637, 638, 639, 640] rfl (by decide +kernel)
set_option maxRecDepth 20000 in
theorem gL_law_X6_go : GoodIn wsL_law (wsV RL 41 RX6 yX6_go wsX6_go) := goodIn_app (goodIn_of _ (by decide +kernel)) ggL_law_X6_go
set_option maxRecDepth 20000 in
theorem ggL_law_X7_go : GoodIn wsL_law wsX7_go := goodIn_r _ [223, 125, 127, 129, 130, 5, 131, 224, 225, 226, 227, 89, 126, 90, 94, 228, 229, 230, 231, 92, 93, 232, 233, 234, 235, 91, 605, 606, 607, 608, 609, 610, 611, 612, 613, 614, 615, 616, 617, 618, 619, 620, 621, 622, 623, 624, 625, 626, 627, 628, 629] rfl (by decide +kernel)
set_option maxRecDepth 20000 in
theorem gL_law_X7_go : GoodIn wsL_law (wsV RL 44 RX7 yX7_go wsX7_go) := goodIn_app (goodIn_of _ (by decide +kernel)) ggL_law_X7_go
set_option maxRecDepth 20000 in
theorem ggL_law_X6_set : GoodIn wsL_law wsX6_set := goodIn_r _ [239, 34, 21, 240, 241, 242, 36, 243, 77, 78, 79, 81, 244, 245, 246, 247, 598, 599, 600, 601, 602, 603, 604, 650, 651, 652, 653, 654, 655] rfl (by decide +kernel)
set_option maxRecDepth 20000 in
theorem gL_law_X6_set : GoodIn wsL_law (wsV RL 45 RX6 yX6_set wsX6_set) := goodIn_app (goodIn_of _ (by decide +kernel)) ggL_law_X6_set
set_option maxRecDepth 20000 in
theorem ggL_law_X7_set : GoodIn wsL_law wsX7_set := goodIn_r _ [251, 128, 95, 100, 605, 606, 607, 608, 609, 610, 611, 612, 613, 614, 615, 616, 617, 618, 619, 620, 621, 622, 623, 624, 625, 626, 627, 628, 629] rfl (by decide +kernel)
set_option maxRecDepth 20000 in
theorem gL_law_X7_set : GoodIn wsL_law (wsV RL 48 RX7 yX7_set wsX7_set) := goodIn_app (goodIn_of _ (by decide +kernel)) ggL_law_X7_set
set_option maxRecDepth 20000 in
theorem ggL_law_X6_link : GoodIn wsL_law wsX6_link := goodIn_r _ [255, 15, 21, 256, 257, 258, 2, 259, 34, 260, 261, 262, 263, 136, 137, 138, 14, 139, 40, 140, 141, 142, 143, 41, 264, 265, 266, 267, 268, 269, 36, 270, 79, 77, 81, 598, 599, 600, 601, 602, 603, 604, 650, 651, 652, 653, 654, 655, 630, 631, 632, 633, 634, 635, 636, 637] rfl (by decide +kernel)
set_option maxRecDepth 20000 in
theorem gL_law_X6_link : GoodIn wsL_law (wsV RL 49 RX6 yX6_link wsX6_link) := goodIn_app (goodIn_of _ (by decide +kernel)) ggL_law_X6_link
set_option maxRecDepth 20000 in
theorem ggL_law_X7_link : GoodIn wsL_law wsX7_link := goodIn_r _ [274, 124, 95, 96, 97, 98, 275, 276, 277, 5, 278, 128, 129, 130, 131, 279, 280, 281, 282, 155, 156, 157, 158, 87, 159, 160, 161, 162, 88, 605, 606, 607, 608, 609, 610, 611, 612, 613, 614, 615, 616, 617, 618, 619, 620, 621, 622, 623, 624, 625, 626, 627, 628, 629] rfl (by decide +kernel)
set_option maxRecDepth 20000 in
theorem gL_law_X7_link : GoodIn wsL_law (wsV RL 52 RX7 yX7_link wsX7_link) := goodIn_app (goodIn_of _ (by decide +kernel)) ggL_law_X7_link
set_option maxRecDepth 20000 in
theorem ggL_law_X6_last : GoodIn wsL_law wsX6_last := goodIn_r _ [286, 21, 256, 257, 258, 2, 259, 34, 260, 261, 262, 263, 15, 136, 137, 138, 14, 139, 40, 264, 265, 266, 287, 288, 289, 36, 290, 78, 291, 292, 293, 294, 295, 296, 598, 599, 600, 601, 602, 603, 604, 630, 631, 632, 633, 634, 635, 636, 637, 650, 651, 652, 653, 654, 655] rfl (by decide +kernel)
set_option maxRecDepth 20000 in
theorem gL_law_X6_last : GoodIn wsL_law (wsV RL 53 RX6 yX6_last wsX6_last) := goodIn_app (goodIn_of _ (by decide +kernel)) ggL_law_X6_last
set_option maxRecDepth 20000 in
theorem ggL_law_X7_last : GoodIn wsL_law wsX7_last := goodIn_r _ [300, 100, 275, 276, 277, 5, 278, 128, 129, 130, 131, 279, 280, 281, 282, 124, 155, 156, 157, 158, 87, 605, 606, 607, 608, 609, 610, 611, 612, 613, 614, 615, 616, 617, 618, 619, 620, 621, 622, 623, 624, 625, 626, 627, 628, 629] rfl (by decide +kernel)
set_option maxRecDepth 20000 in
theorem gL_law_X7_last : GoodIn wsL_law (wsV RL 57 RX7 yX7_last wsX7_last) := goodIn_app (goodIn_of _ (by decide +kernel)) ggL_law_X7_last
set_option maxRecDepth 20000 in
theorem ggL_law_X6_unset : GoodIn wsL_law wsX6_unset := goodIn_r _ [304, 34, 598, 599, 600, 601, 602, 603, 604] rfl (by decide +kernel)
set_option maxRecDepth 20000 in
theorem gL_law_X6_unset : GoodIn wsL_law (wsV RL 58 RX6 yX6_unset wsX6_unset) := goodIn_app (goodIn_of _ (by decide +kernel)) ggL_law_X6_unset
set_option maxRecDepth 20000 in
theorem ggL_law_X7_unset : GoodIn wsL_law wsX7_unset := goodIn_r _ [308, 128, 605, 606, 607, 608, 609, 610, 611, 612, 613, 614, 615, 616, 617, 618, 619, 620, 621, 622, 623, 624, 625, 626, 627, 628, 629] rfl (by decide +kernel)
set_option maxRecDepth 20000 in
theorem gL_law_X7_unset : GoodIn wsL_law (wsV RL 61 RX7 yX7_unset wsX7_unset) := goodIn_app (goodIn_of _ (by decide +kernel)) ggL_law_X7_unset
set_option maxRecDepth 20000 in
theorem ggL_law_X6_in : GoodIn wsL_law wsX6_in := goodIn_r _ [312, 21, 19, 256, 257, 258, 2, 259, 34, 313, 314, 315, 36, 316, 78, 317, 318, 319, 320, 79, 295, 296, 598, 599, 600, 601, 602, 603, 604, 638, 639, 640, 650, 651, 652, 653, 654, 655] rfl (by decide +kernel)
set_option maxRecDepth 20000 in
theorem gL_law_X6_in : GoodIn wsL_law (wsV RL 62 RX6 yX6_in wsX6_in) := goodIn_app (goodIn_of _ (by decide +kernel)) ggL_law_X6_in
set_option maxRecDepth 20000 in
theorem ggL_law_X7_in : GoodIn wsL_law wsX7_in := goodIn_r _ [324, 275, 276, 277, 5, 278, 128, 129, 130, 131, 325, 326, 327, 328, 126, 127, 94, 100, 329, 330, 331, 332, 95, 96, 97, 98, 605, 606, 607, 608, 609, 610, 611, 612, 613, 614, 615, 616, 617, 618, 619, 620, 621, 622, 623, 624, 625, 626, 627, 628, 629] rfl (by decide +kernel)
set_option maxRecDepth 20000 in
theorem gL_law_X7_in : GoodIn wsL_law (wsV RL 65 RX7 yX7_in wsX7_in) := goodIn_app (goodIn_of _ (by decide +kernel)) ggL_law_X7_in
set_option maxRecDepth 20000 in
theorem ggL_law_X6_far : GoodIn wsL_law wsX6_far := goodIn_r _ [336, 337, 256, 257, 258, 2, 259, 34, 338, 339, 340, 341, 21, 25, 15, 33, 19, 342, 343, 344, 24, 345, 60, 59, 346, 347, 348, 246, 349, 350, 351, 352, 353, 354, 355, 356, 357, 145, 146, 358, 359, 360, 361, 362, 363, 364, 365, 366, 367, 368, 369, 370, 371, 372, 36, 373, 81, 82, 80, 374, 375, 376, 377, 378, 379, 380, 381, 382, 79, 295, 296, 383, 384, 385, 386, 387, 388, 389, 390, 391, 392, 393, 394, 395, 396, 397, 398, 399, 400, 401, 32, 402, 73, 403, 404, 292, 293, 294, 78, 405, 406, 407, 408, 409, 410, 411, 412, 413, 414, 415, 416, 417, 418, 598, 599, 600, 601, 602, 603, 604, 649, 638, 639, 640, 641, 642, 630, 631, 632, 633, 634, 635, 636, 637, 650, 651, 652, 653, 654, 655] rfl (by decide +kernel)
set_option maxRecDepth 20000 in
theorem gL_law_X6_far : GoodIn wsL_law (wsV RL 66 RX6 yX6_far wsX6_far) := goodIn_app (goodIn_of _ (by decide +kernel)) ggL_law_X6_far
set_option maxRecDepth 20000 in
theorem ggL_law_X7_far : GoodIn wsL_law wsX7_far := goodIn_r _ [422, 423, 275, 276, 277, 5, 278, 128, 129, 130, 131, 424, 425, 426, 427, 428, 102, 101, 429, 103, 87, 88, 329, 330, 331, 332, 95, 96, 97, 98, 430, 431, 432, 433, 434, 435, 436, 104, 125, 89, 90, 437, 438, 439, 440, 91, 92, 93, 228, 229, 230, 231, 441, 442, 443, 444, 445, 446, 447, 448, 449, 450, 451, 452, 453, 454, 455, 105, 127, 126, 456, 457, 458, 459, 100, 94, 605, 606, 607, 608, 609, 610, 611, 612, 613, 614, 615, 616, 617, 618, 619, 620, 621, 622, 623, 624, 625, 626, 627, 628, 629] rfl (by decide +kernel)
set_option maxRecDepth 20000 in
theorem gL_law_X7_far : GoodIn wsL_law (wsV RL 70 RX7 yX7_far wsX7_far) := goodIn_app (goodIn_of _ (by decide +kernel)) ggL_law_X7_far
set_option maxRecDepth 20000 in
theorem ggL_law_X6_step : GoodIn wsL_law wsX6_step := goodIn_r _ [463, 361, 19, 15, 256, 257, 258, 2, 259, 34, 338, 339, 340, 341, 21, 25, 33, 342, 343, 344, 24, 345, 60, 59, 346, 347, 348, 246, 349, 350, 351, 352, 353, 354, 355, 356, 357, 145, 146, 358, 359, 360, 362, 363, 364, 365, 366, 367, 368, 369, 370, 371, 372, 36, 373, 81, 82, 80, 374, 375, 376, 377, 378, 379, 380, 381, 382, 79, 295, 296, 383, 384, 385, 386, 387, 388, 389, 390, 391, 392, 393, 394, 395, 396, 397, 398, 399, 400, 401, 32, 402, 73, 403, 404, 292, 293, 294, 78, 405, 406, 407, 408, 409, 410, 411, 412, 413, 414, 464, 465, 466, 467, 207, 208, 209, 18, 210, 53, 52, 54, 468, 469, 470, 471, 211, 212, 213, 214, 215, 216, 217, 218, 219, 188, 189, 190, 598, 599, 600, 601, 602, 603, 604, 649, 638, 639, 640, 641, 642, 630, 631, 632, 633, 634, 635, 636, 637, 650, 651, 652, 653, 654, 655] rfl (by decide +kernel)
set_option maxRecDepth 20000 in
theorem gL_law_X6_step : GoodIn wsL_law (wsV RL 71 RX6 yX6_step wsX6_step) := goodIn_app (goodIn_of _ (by decide +kernel)) ggL_law_X6_step
set_option maxRecDepth 20000 in
theorem ggL_law_X7_step : GoodIn wsL_law wsX7_step := goodIn_r _ [475, 448, 127, 275, 276, 277, 5, 278, 128, 129, 130, 131, 424, 425, 426, 427, 428, 102, 101, 429, 103, 87, 88, 329, 330, 331, 332, 95, 96, 97, 98, 430, 431, 432, 433, 434, 435, 436, 104, 125, 89, 90, 437, 438, 439, 440, 91, 92, 93, 228, 229, 230, 231, 441, 442, 443, 444, 445, 446, 447, 449, 450, 451, 452, 453, 454, 455, 105, 126, 456, 457, 458, 459, 100, 94, 476, 477, 478, 479, 224, 225, 226, 227, 232, 233, 234, 235, 605, 606, 607, 608, 609, 610, 611, 612, 613, 614, 615, 616, 617, 618, 619, 620, 621, 622, 623, 624, 625, 626, 627, 628, 629] rfl (by decide +kernel)
set_option maxRecDepth 20000 in
theorem gL_law_X7_step : GoodIn wsL_law (wsV RL 74 RX7 yX7_step wsX7_step) := goodIn_app (goodIn_of _ (by decide +kernel)) ggL_law_X7_step
set_option maxRecDepth 20000 in
theorem ggL_law_X6_run : GoodIn wsL_law wsX6_run := goodIn_r _ [483, 361, 19, 15, 33, 21, 256, 257, 258, 2, 259, 34, 338, 339, 340, 341, 25, 342, 343, 344, 24, 345, 60, 59, 346, 347, 348, 246, 349, 350, 351, 352, 353, 354, 355, 356, 357, 145, 146, 358, 359, 360, 362, 363, 364, 365, 366, 367, 368, 369, 370, 371, 372, 36, 373, 81, 82, 80, 374, 375, 376, 377, 378, 379, 380, 381, 382, 79, 295, 296, 383, 384, 385, 386, 387, 388, 389, 390, 391, 392, 393, 394, 395, 396, 397, 398, 399, 400, 401, 32, 402, 73, 403, 404, 292, 293, 294, 78, 405, 406, 407, 408, 409, 410, 411, 412, 413, 414, 464, 465, 466, 467, 207, 208, 209, 18, 210, 53, 52, 54, 468, 469, 470, 471, 211, 212, 213, 214, 215, 216, 217, 218, 219, 188, 189, 190, 598, 599, 600, 601, 602, 603, 604, 638, 639, 640, 649, 641, 642, 630, 631, 632, 633, 634, 635, 636, 637, 650, 651, 652, 653, 654, 655] rfl (by decide +kernel)
set_option maxRecDepth 20000 in
theorem gL_law_X6_run : GoodIn wsL_law (wsV RL 75 RX6 yX6_run wsX6_run) := goodIn_app (goodIn_of _ (by decide +kernel)) ggL_law_X6_run
set_option maxRecDepth 20000 in
theorem ggL_law_X7_run : GoodIn wsL_law wsX7_run := goodIn_r _ [487, 488, 448, 127, 275, 276, 277, 5, 278, 128, 129, 130, 131, 424, 425, 426, 427, 428, 102, 101, 429, 103, 87, 88, 329, 330, 331, 332, 95, 96, 97, 98, 430, 431, 432, 433, 434, 435, 436, 104, 125, 89, 90, 437, 438, 439, 440, 91, 92, 93, 228, 229, 230, 231, 441, 442, 443, 444, 445, 446, 447, 449, 450, 451, 452, 453, 454, 455, 105, 126, 456, 457, 458, 459, 100, 94, 476, 477, 478, 479, 224, 225, 226, 227, 232, 233, 234, 235, 605, 606, 607, 608, 609, 610, 611, 612, 613, 614, 615, 616, 617, 618, 619, 620, 621, 622, 623, 624, 625, 626, 627, 628, 629] rfl (by decide +kernel)
set_option maxRecDepth 20000 in
theorem gL_law_X7_run : GoodIn wsL_law (wsV RL 78 RX7 yX7_run wsX7_run) := goodIn_app (goodIn_of _ (by decide +kernel)) ggL_law_X7_run
set_option maxRecDepth 20000 in
theorem ggL_law_X6_pop : GoodIn wsL_law wsX6_pop := goodIn_r _ [492, 15, 337, 25, 136, 137, 138, 14, 139, 40, 140, 141, 142, 143, 41, 342, 343, 344, 24, 345, 60, 59, 346, 347, 348, 246, 349, 350, 351, 352, 353, 354, 355, 356, 357, 145, 2, 146, 358, 359, 360, 361, 362, 363, 364, 365, 366, 367, 368, 369, 144, 415, 416, 417, 418, 598, 599, 600, 601, 602, 603, 604, 641, 642, 630, 631, 632, 633, 634, 635, 636, 637] rfl (by decide +kernel)
set_option maxRecDepth 20000 in
theorem gL_law_X6_pop : GoodIn wsL_law (wsV RL 79 RX6 yX6_pop wsX6_pop) := goodIn_app (goodIn_of _ (by decide +kernel)) ggL_law_X6_pop
set_option maxRecDepth 20000 in
theorem ggL_law_X7_pop : GoodIn wsL_law wsX7_pop := goodIn_r _ [496, 423, 101, 155, 156, 157, 5, 158, 87, 129, 130, 131, 159, 160, 161, 162, 88, 424, 425, 426, 427, 428, 102, 429, 103, 329, 330, 331, 332, 95, 96, 97, 98, 430, 431, 432, 433, 434, 435, 436, 104, 125, 89, 90, 437, 438, 439, 440, 91, 92, 93, 228, 229, 230, 231, 441, 442, 443, 444, 445, 446, 447, 448, 449, 450, 451, 605, 606, 607, 608, 609, 610, 611, 612, 613, 614, 615, 616, 617, 618, 619, 620, 621, 622, 623, 624, 625, 626, 627, 628, 629] rfl (by decide +kernel)
set_option maxRecDepth 20000 in
theorem gL_law_X7_pop : GoodIn wsL_law (wsV RL 83 RX7 yX7_pop wsX7_pop) := goodIn_app (goodIn_of _ (by decide +kernel)) ggL_law_X7_pop
set_option maxRecDepth 20000 in
theorem ggL_law_X6_endless : GoodIn wsL_law wsX6_endless := goodIn_r _ [500, 25, 15, 29, 19, 342, 343, 344, 24, 345, 60, 59, 346, 347, 348, 246, 349, 350, 351, 352, 353, 354, 355, 356, 357, 145, 2, 146, 358, 359, 360, 361, 362, 363, 364, 365, 366, 367, 368, 369, 501, 502, 503, 28, 504, 69, 505, 506, 507, 508, 64, 509, 510, 511, 512, 513, 65, 514, 245, 247, 515, 516, 517, 518, 295, 296, 519, 520, 521, 522, 67, 68, 523, 524, 525, 526, 527, 528, 529, 530, 66, 531, 532, 533, 534, 535, 536, 537, 538, 539, 540, 541, 542, 543, 544, 545, 546, 547, 548, 549, 598, 599, 600, 601, 602, 603, 604, 641, 642, 630, 631, 632, 633, 634, 635, 636, 637, 643, 644, 645, 646, 647, 648, 638, 639, 640] rfl (by decide +kernel)
set_option maxRecDepth 20000 in
theorem gL_law_X6_endless : GoodIn wsL_law (wsV RL 84 RX6 yX6_endless wsX6_endless) := goodIn_app (goodIn_of _ (by decide +kernel)) ggL_law_X6_endless
set_option maxRecDepth 20000 in
theorem ggL_law_X7_endless : GoodIn wsL_law wsX7_endless := goodIn_r _ [553, 126, 127, 87, 94, 424, 425, 426, 5, 427, 428, 102, 101, 429, 103, 88, 329, 330, 331, 332, 95, 96, 97, 98, 430, 431, 432, 433, 434, 435, 436, 104, 125, 89, 90, 437, 438, 439, 440, 91, 92, 93, 228, 229, 230, 231, 441, 442, 443, 444, 445, 446, 447, 448, 449, 450, 451, 554, 555, 556, 557, 106, 558, 559, 560, 561, 562, 563, 564, 565, 566, 567, 568, 569, 605, 606, 607, 608, 609, 610, 611, 612, 613, 614, 615, 616, 617, 618, 619, 620, 621, 622, 623, 624, 625, 626, 627, 628, 629] rfl (by decide +kernel)
set_option maxRecDepth 20000 in
theorem gL_law_X7_endless : GoodIn wsL_law (wsV RL 87 RX7 yX7_endless wsX7_endless) := goodIn_app (goodIn_of _ (by decide +kernel)) ggL_law_X7_endless
set_option maxRecDepth 20000 in
theorem ggL_law_X6_high : GoodIn wsL_law wsX6_high := goodIn_r _ [573, 25, 15, 29, 19, 342, 343, 344, 24, 345, 60, 59, 346, 347, 348, 246, 349, 350, 351, 352, 353, 354, 355, 356, 357, 145, 2, 146, 358, 359, 360, 361, 362, 363, 364, 365, 366, 367, 368, 369, 501, 502, 503, 28, 504, 69, 505, 506, 507, 508, 64, 509, 510, 511, 512, 513, 65, 514, 245, 247, 515, 516, 517, 518, 295, 296, 519, 520, 521, 522, 67, 68, 523, 524, 525, 526, 527, 528, 529, 530, 66, 531, 532, 533, 534, 535, 536, 537, 574, 575, 576, 577, 542, 543, 544, 545, 546, 547, 548, 549, 598, 599, 600, 601, 602, 603, 604, 641, 642, 630, 631, 632, 633, 634, 635, 636, 637, 643, 644, 645, 646, 647, 648, 638, 639, 640] rfl (by decide +kernel)
set_option maxRecDepth 20000 in
theorem gL_law_X6_high : GoodIn wsL_law (wsV RL 88 RX6 yX6_high wsX6_high) := goodIn_app (goodIn_of _ (by decide +kernel)) ggL_law_X6_high
set_option maxRecDepth 20000 in
theorem ggL_law_X7_high : GoodIn wsL_law wsX7_high := goodIn_r _ [581, 126, 127, 87, 107, 94, 424, 425, 426, 5, 427, 428, 102, 101, 429, 103, 88, 329, 330, 331, 332, 95, 96, 97, 98, 430, 431, 432, 433, 434, 435, 436, 104, 125, 89, 90, 437, 438, 439, 440, 91, 92, 93, 228, 229, 230, 231, 441, 442, 443, 444, 445, 446, 447, 448, 449, 450, 451, 582, 583, 584, 585, 558, 559, 560, 561, 566, 567, 568, 569, 605, 606, 607, 608, 609, 610, 611, 612, 613, 614, 615, 616, 617, 618, 619, 620, 621, 622, 623, 624, 625, 626, 627, 628, 629] rfl (by decide +kernel)
set_option maxRecDepth 20000 in
theorem gL_law_X7_high : GoodIn wsL_law (wsV RL 91 RX7 yX7_high wsX7_high) := goodIn_app (goodIn_of _ (by decide +kernel)) ggL_law_X7_high
set_option maxRecDepth 20000 in
theorem ggL_law_X6_count : GoodIn wsL_law wsX6_count := goodIn_r _ [589, 15, 34, 19, 207, 208, 209, 18, 210, 53, 52, 54, 145, 2, 146, 590, 591, 592, 14, 593, 42, 45, 598, 599, 600, 601, 602, 603, 604, 630, 631, 632, 633, 634, 635, 636, 637, 638, 639, 640] rfl (by decide +kernel)
set_option maxRecDepth 20000 in
theorem gL_law_X6_count : GoodIn wsL_law (wsV RL 92 RX6 yX6_count wsX6_count) := goodIn_app (goodIn_of _ (by decide +kernel)) ggL_law_X6_count
set_option maxRecDepth 20000 in
theorem ggL_law_X7_count : GoodIn wsL_law wsX7_count := goodIn_r _ [597, 87, 88, 125, 128, 127, 224, 225, 226, 5, 227, 89, 126, 90, 94, 605, 606, 607, 608, 609, 610, 611, 612, 613, 614, 615, 616, 617, 618, 619, 620, 621, 622, 623, 624, 625, 626, 627, 628, 629] rfl (by decide +kernel)
set_option maxRecDepth 20000 in
theorem gL_law_X7_count : GoodIn wsL_law (wsV RL 95 RX7 yX7_count wsX7_count) := goodIn_app (goodIn_of _ (by decide +kernel)) ggL_law_X7_count

