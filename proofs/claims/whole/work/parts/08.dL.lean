set_option maxRecDepth 20000 in
theorem ggL_law_X4_init : GoodIn wsL_law wsX4_init := goodIn_r _ [8, 9, 10, 11, 12, 13, 14, 15, 16, 17, 18, 19, 20, 21, 22, 23, 24, 25, 26, 27, 28, 29, 30, 31, 32, 33, 34, 35, 36, 37, 38, 39, 40, 41, 42, 43, 44, 45, 46, 47, 48, 49, 50, 51, 52, 53, 54, 55, 56, 57, 58, 59, 60, 61, 62, 63, 64, 65, 66, 67, 68, 69, 70, 71, 72, 73, 74, 75, 76, 77, 78, 79, 80, 81, 82, 83, 84, 85, 634, 635, 636, 637, 638, 639, 640, 641, 642, 601, 602, 603, 604, 605, 643, 644, 645, 646, 647, 648, 649, 650, 651, 652, 653, 654, 655, 656, 657, 658, 659] rfl (by decide +kernel)
set_option maxRecDepth 20000 in
theorem gL_law_X4_init : GoodIn wsL_law (wsX4_init) := ggL_law_X4_init
set_option maxRecDepth 20000 in
theorem ggL_law_X5_init : GoodIn wsL_law wsX5_init := goodIn_r _ [88, 89, 10, 11, 33, 90, 91, 92, 93, 94, 95, 80, 96, 97, 98, 99, 100, 101, 102, 103, 104, 105, 106, 107, 108, 109, 110, 111, 606, 607, 608, 609, 610, 611, 612, 613, 614, 615, 616, 617, 618, 619, 620, 621, 622, 623, 624, 625, 626, 627, 628, 629, 630, 631, 632, 633] rfl (by decide +kernel)
set_option maxRecDepth 20000 in
theorem gL_law_X5_init : GoodIn wsL_law (wsX5_init) := ggL_law_X5_init
set_option maxRecDepth 20000 in
theorem ggL_law_X4_servant : GoodIn wsL_law wsX4_servant := goodIn_r _ [115, 27, 15, 116, 117, 2, 118, 119, 120, 121, 122, 123, 124, 26, 125, 78, 126, 127, 128, 14, 129, 130, 34, 35, 36, 601, 602, 603, 604, 605, 654, 655, 656, 657, 658, 659, 634, 635, 636, 637, 638, 639, 640, 641, 642] rfl (by decide +kernel)
set_option maxRecDepth 20000 in
theorem gL_law_X4_servant : GoodIn wsL_law (wsV RL 13 RX4 yX4_servant wsX4_servant) := goodIn_app (goodIn_r _ [112, 113, 114, 2] rfl (by decide +kernel)) ggL_law_X4_servant
set_option maxRecDepth 20000 in
theorem ggL_law_X5_servant : GoodIn wsL_law wsX5_servant := goodIn_r _ [134, 135, 136, 137, 138, 103, 139, 90, 91, 92, 140, 141, 5, 142, 606, 607, 608, 609, 610, 611, 612, 613, 614, 615, 616, 617, 618, 619, 620, 621, 622, 623, 624, 625, 626, 627, 628, 629, 630, 631, 632, 633] rfl (by decide +kernel)
set_option maxRecDepth 20000 in
theorem gL_law_X5_servant : GoodIn wsL_law (wsV RL 17 RX5 yX5_servant wsX5_servant) := goodIn_app (goodIn_r _ [131, 132, 133, 5] rfl (by decide +kernel)) ggL_law_X5_servant
set_option maxRecDepth 20000 in
theorem ggL_law_X4_master : GoodIn wsL_law wsX4_master := goodIn_r _ [146, 27, 15, 116, 117, 2, 118, 119, 120, 121, 122, 123, 124, 26, 125, 78, 147, 148, 149, 14, 150, 151, 37, 38, 601, 602, 603, 604, 605, 654, 655, 656, 657, 658, 659, 634, 635, 636, 637, 638, 639, 640, 641, 642] rfl (by decide +kernel)
set_option maxRecDepth 20000 in
theorem gL_law_X4_master : GoodIn wsL_law (wsV RL 18 RX4 yX4_master wsX4_master) := goodIn_app (goodIn_r _ [143, 144, 145, 2] rfl (by decide +kernel)) ggL_law_X4_master
set_option maxRecDepth 20000 in
theorem ggL_law_X5_master : GoodIn wsL_law wsX5_master := goodIn_r _ [155, 135, 136, 156, 103, 157, 93, 94, 140, 141, 5, 142, 606, 607, 608, 609, 610, 611, 612, 613, 614, 615, 616, 617, 618, 619, 620, 621, 622, 623, 624, 625, 626, 627, 628, 629, 630, 631, 632, 633] rfl (by decide +kernel)
set_option maxRecDepth 20000 in
theorem gL_law_X5_master : GoodIn wsL_law (wsV RL 22 RX5 yX5_master wsX5_master) := goodIn_app (goodIn_r _ [152, 153, 154, 5] rfl (by decide +kernel)) ggL_law_X5_master
set_option maxRecDepth 20000 in
theorem ggL_law_X4_bar : GoodIn wsL_law wsX4_bar := goodIn_r _ [161, 15, 162, 163, 164, 14, 165, 166, 167, 168, 169, 151, 170, 171, 172, 173, 130, 174, 175, 176, 177, 41, 178, 179, 180, 181, 601, 602, 603, 604, 605, 634, 635, 636, 637, 638, 639, 640, 641, 642] rfl (by decide +kernel)
set_option maxRecDepth 20000 in
theorem gL_law_X4_bar : GoodIn wsL_law (wsV RL 23 RX4 yX4_bar wsX4_bar) := goodIn_app (goodIn_r _ [158, 159, 160, 2] rfl (by decide +kernel)) ggL_law_X4_bar
set_option maxRecDepth 20000 in
theorem ggL_law_X5_bar : GoodIn wsL_law wsX5_bar := goodIn_r _ [185, 135, 96, 186, 187, 188, 5, 189, 139, 140, 141, 142, 190, 191, 192, 193, 157, 606, 607, 608, 609, 610, 611, 612, 613, 614, 615, 616, 617, 618, 619, 620, 621, 622, 623, 624, 625, 626, 627, 628, 629, 630, 631, 632, 633] rfl (by decide +kernel)
set_option maxRecDepth 20000 in
theorem gL_law_X5_bar : GoodIn wsL_law (wsV RL 27 RX5 yX5_bar wsX5_bar) := goodIn_app (goodIn_r _ [182, 183, 184, 5] rfl (by decide +kernel)) ggL_law_X5_bar
set_option maxRecDepth 20000 in
theorem ggL_law_X4_hear : GoodIn wsL_law wsX4_hear := goodIn_r _ [197, 15, 162, 163, 164, 14, 165, 166, 167, 168, 169, 151, 170, 171, 172, 173, 130, 119, 120, 2, 121, 198, 199, 200, 201, 40, 202, 203, 204, 205, 601, 602, 603, 604, 605, 634, 635, 636, 637, 638, 639, 640, 641, 642] rfl (by decide +kernel)
set_option maxRecDepth 20000 in
theorem gL_law_X4_hear : GoodIn wsL_law (wsV RL 28 RX4 yX4_hear wsX4_hear) := goodIn_app (goodIn_r _ [194, 195, 196, 2] rfl (by decide +kernel)) ggL_law_X4_hear
set_option maxRecDepth 20000 in
theorem ggL_law_X5_hear : GoodIn wsL_law wsX5_hear := goodIn_r _ [209, 135, 137, 95, 190, 191, 192, 5, 193, 157, 140, 141, 142, 186, 187, 188, 189, 139, 210, 211, 212, 213, 606, 607, 608, 609, 610, 611, 612, 613, 614, 615, 616, 617, 618, 619, 620, 621, 622, 623, 624, 625, 626, 627, 628, 629, 630, 631, 632, 633] rfl (by decide +kernel)
set_option maxRecDepth 20000 in
theorem gL_law_X5_hear : GoodIn wsL_law (wsV RL 31 RX5 yX5_hear wsX5_hear) := goodIn_app (goodIn_r _ [206, 207, 208, 5] rfl (by decide +kernel)) ggL_law_X5_hear
set_option maxRecDepth 20000 in
theorem ggL_law_X4_pass : GoodIn wsL_law wsX4_pass := goodIn_r _ [217, 15, 162, 163, 164, 14, 165, 166, 167, 168, 169, 151, 170, 171, 172, 173, 130, 218, 219, 220, 221, 222, 40, 198, 199, 200, 201, 202, 203, 204, 205, 601, 602, 603, 604, 605, 634, 635, 636, 637, 638, 639, 640, 641, 642] rfl (by decide +kernel)
set_option maxRecDepth 20000 in
theorem gL_law_X4_pass : GoodIn wsL_law (wsV RL 32 RX4 yX4_pass wsX4_pass) := goodIn_app (goodIn_r _ [214, 215, 216, 2] rfl (by decide +kernel)) ggL_law_X4_pass
set_option maxRecDepth 20000 in
theorem ggL_law_X5_pass : GoodIn wsL_law wsX5_pass := goodIn_r _ [226, 135, 95, 190, 191, 192, 5, 193, 157, 140, 141, 142, 186, 187, 188, 189, 139, 606, 607, 608, 609, 610, 611, 612, 613, 614, 615, 616, 617, 618, 619, 620, 621, 622, 623, 624, 625, 626, 627, 628, 629, 630, 631, 632, 633] rfl (by decide +kernel)
set_option maxRecDepth 20000 in
theorem gL_law_X5_pass : GoodIn wsL_law (wsV RL 35 RX5 yX5_pass wsX5_pass) := goodIn_app (goodIn_r _ [223, 224, 225, 5] rfl (by decide +kernel)) ggL_law_X5_pass
set_option maxRecDepth 20000 in
theorem ggL_law_X4_about : GoodIn wsL_law wsX4_about := goodIn_r _ [230, 15, 231, 232, 233, 22, 234, 235, 236, 27, 237, 171, 172, 14, 173, 130, 238, 239, 240, 26, 241, 77, 79, 242, 123, 124, 125, 78, 243, 244, 245, 18, 246, 58, 601, 602, 603, 604, 605, 634, 635, 636, 637, 638, 639, 640, 641, 642, 643, 644, 645, 646, 647, 648, 649, 650, 654, 655, 656, 657, 658, 659] rfl (by decide +kernel)
set_option maxRecDepth 20000 in
theorem gL_law_X4_about : GoodIn wsL_law (wsV RL 36 RX4 yX4_about wsX4_about) := goodIn_app (goodIn_r _ [227, 228, 229, 2] rfl (by decide +kernel)) ggL_law_X4_about
set_option maxRecDepth 20000 in
theorem ggL_law_X5_about : GoodIn wsL_law wsX5_about := goodIn_r _ [250, 135, 98, 90, 91, 92, 99, 100, 103, 104, 186, 187, 188, 5, 189, 139, 140, 141, 142, 606, 607, 608, 609, 610, 611, 612, 613, 614, 615, 616, 617, 618, 619, 620, 621, 622, 623, 624, 625, 626, 627, 628, 629, 630, 631, 632, 633] rfl (by decide +kernel)
set_option maxRecDepth 20000 in
theorem gL_law_X5_about : GoodIn wsL_law (wsV RL 39 RX5 yX5_about wsX5_about) := goodIn_app (goodIn_r _ [247, 248, 249, 5] rfl (by decide +kernel)) ggL_law_X5_about
set_option maxRecDepth 20000 in
theorem ggL_law_X4_house : GoodIn wsL_law wsX4_house := goodIn_r _ [254, 15, 255, 256, 22, 257, 218, 167, 168, 14, 169, 151, 258, 259, 260, 18, 261, 62, 262, 263, 264, 265, 266, 267, 268, 601, 602, 603, 604, 605, 634, 635, 636, 637, 638, 639, 640, 641, 642, 643, 644, 645, 646, 647, 648, 649, 650] rfl (by decide +kernel)
set_option maxRecDepth 20000 in
theorem gL_law_X4_house : GoodIn wsL_law (wsV RL 40 RX4 yX4_house wsX4_house) := goodIn_app (goodIn_r _ [251, 252, 253, 2] rfl (by decide +kernel)) ggL_law_X4_house
set_option maxRecDepth 20000 in
theorem ggL_law_X5_house : GoodIn wsL_law wsX5_house := goodIn_r _ [272, 135, 97, 93, 94, 101, 190, 191, 192, 5, 193, 157, 140, 141, 142, 606, 607, 608, 609, 610, 611, 612, 613, 614, 615, 616, 617, 618, 619, 620, 621, 622, 623, 624, 625, 626, 627, 628, 629, 630, 631, 632, 633] rfl (by decide +kernel)
set_option maxRecDepth 20000 in
theorem gL_law_X5_house : GoodIn wsL_law (wsV RL 43 RX5 yX5_house wsX5_house) := goodIn_app (goodIn_r _ [269, 270, 271, 5] rfl (by decide +kernel)) ggL_law_X5_house
set_option maxRecDepth 20000 in
theorem ggL_law_X4_holds : GoodIn wsL_law wsX4_holds := goodIn_r _ [276, 15, 162, 163, 164, 14, 165, 166, 167, 168, 169, 151, 170, 171, 172, 173, 130, 198, 199, 200, 201, 40, 601, 602, 603, 604, 605, 634, 635, 636, 637, 638, 639, 640, 641, 642] rfl (by decide +kernel)
set_option maxRecDepth 20000 in
theorem gL_law_X4_holds : GoodIn wsL_law (wsV RL 44 RX4 yX4_holds wsX4_holds) := goodIn_app (goodIn_r _ [273, 274, 275, 2] rfl (by decide +kernel)) ggL_law_X4_holds
set_option maxRecDepth 20000 in
theorem ggL_law_X5_holds : GoodIn wsL_law wsX5_holds := goodIn_r _ [280, 135, 190, 191, 192, 5, 193, 157, 140, 141, 142, 186, 187, 188, 189, 139, 210, 211, 212, 213, 95, 606, 607, 608, 609, 610, 611, 612, 613, 614, 615, 616, 617, 618, 619, 620, 621, 622, 623, 624, 625, 626, 627, 628, 629, 630, 631, 632, 633] rfl (by decide +kernel)
set_option maxRecDepth 20000 in
theorem gL_law_X5_holds : GoodIn wsL_law (wsV RL 47 RX5 yX5_holds wsX5_holds) := goodIn_app (goodIn_r _ [277, 278, 279, 5] rfl (by decide +kernel)) ggL_law_X5_holds
set_option maxRecDepth 20000 in
theorem ggL_law_X4_offer : GoodIn wsL_law wsX4_offer := goodIn_r _ [284, 15, 162, 163, 164, 14, 165, 166, 167, 168, 169, 151, 170, 171, 172, 173, 130, 285, 286, 287, 288, 37, 34, 38, 36, 289, 175, 176, 177, 41, 290, 199, 200, 201, 40, 601, 602, 603, 604, 605, 634, 635, 636, 637, 638, 639, 640, 641, 642] rfl (by decide +kernel)
set_option maxRecDepth 20000 in
theorem gL_law_X4_offer : GoodIn wsL_law (wsV RL 48 RX4 yX4_offer wsX4_offer) := goodIn_app (goodIn_r _ [281, 282, 283, 2] rfl (by decide +kernel)) ggL_law_X4_offer
set_option maxRecDepth 20000 in
theorem ggL_law_X5_offer : GoodIn wsL_law wsX5_offer := goodIn_r _ [294, 135, 190, 191, 192, 5, 193, 157, 140, 141, 142, 186, 187, 188, 189, 139, 295, 296, 297, 298, 94, 93, 90, 96, 92, 210, 211, 212, 213, 95, 606, 607, 608, 609, 610, 611, 612, 613, 614, 615, 616, 617, 618, 619, 620, 621, 622, 623, 624, 625, 626, 627, 628, 629, 630, 631, 632, 633] rfl (by decide +kernel)
set_option maxRecDepth 20000 in
theorem gL_law_X5_offer : GoodIn wsL_law (wsV RL 51 RX5 yX5_offer wsX5_offer) := goodIn_app (goodIn_r _ [291, 292, 293, 5] rfl (by decide +kernel)) ggL_law_X5_offer
set_option maxRecDepth 20000 in
theorem ggL_law_X4_next : GoodIn wsL_law wsX4_next := goodIn_r _ [302, 15, 22, 218, 167, 168, 14, 169, 151, 303, 304, 305, 18, 306, 56, 307, 308, 286, 287, 288, 37, 34, 38, 36, 289, 175, 176, 177, 41, 290, 199, 200, 201, 40, 309, 310, 311, 312, 62, 313, 314, 315, 316, 601, 602, 603, 604, 605, 634, 635, 636, 637, 638, 639, 640, 641, 642, 643, 644, 645, 646, 647, 648, 649, 650] rfl (by decide +kernel)
set_option maxRecDepth 20000 in
theorem gL_law_X4_next : GoodIn wsL_law (wsV RL 52 RX4 yX4_next wsX4_next) := goodIn_app (goodIn_r _ [299, 300, 301, 2] rfl (by decide +kernel)) ggL_law_X4_next
set_option maxRecDepth 20000 in
theorem ggL_law_X5_next : GoodIn wsL_law wsX5_next := goodIn_r _ [320, 135, 97, 190, 191, 192, 5, 193, 157, 140, 141, 142, 321, 322, 323, 324, 139, 295, 296, 297, 298, 94, 93, 90, 96, 92, 210, 211, 212, 213, 95, 606, 607, 608, 609, 610, 611, 612, 613, 614, 615, 616, 617, 618, 619, 620, 621, 622, 623, 624, 625, 626, 627, 628, 629, 630, 631, 632, 633] rfl (by decide +kernel)
set_option maxRecDepth 20000 in
theorem gL_law_X5_next : GoodIn wsL_law (wsV RL 56 RX5 yX5_next wsX5_next) := goodIn_app (goodIn_r _ [317, 318, 319, 5] rfl (by decide +kernel)) ggL_law_X5_next
set_option maxRecDepth 20000 in
theorem ggL_law_X4_go : GoodIn wsL_law wsX4_go := goodIn_r _ [328, 27, 22, 329, 119, 120, 2, 121, 122, 123, 124, 26, 125, 78, 330, 331, 332, 18, 333, 67, 334, 335, 48, 336, 337, 338, 339, 340, 56, 341, 61, 342, 343, 344, 345, 58, 62, 57, 346, 304, 305, 306, 307, 308, 286, 287, 14, 288, 37, 34, 38, 36, 289, 175, 176, 177, 41, 290, 199, 200, 201, 40, 309, 310, 311, 312, 313, 314, 315, 316, 347, 348, 349, 350, 59, 351, 244, 245, 246, 352, 353, 354, 21, 355, 356, 50, 51, 357, 358, 359, 360, 60, 361, 362, 363, 364, 601, 602, 603, 604, 605, 643, 644, 645, 646, 647, 648, 649, 650, 654, 655, 656, 657, 658, 659, 634, 635, 636, 637, 638, 639, 640, 641, 642, 651, 652, 653] rfl (by decide +kernel)
set_option maxRecDepth 20000 in
theorem gL_law_X4_go : GoodIn wsL_law (wsV RL 57 RX4 yX4_go wsX4_go) := goodIn_app (goodIn_r _ [325, 326, 327, 2] rfl (by decide +kernel)) ggL_law_X4_go
set_option maxRecDepth 20000 in
theorem ggL_law_X5_go : GoodIn wsL_law wsX5_go := goodIn_r _ [368, 135, 369, 103, 370, 157, 104, 140, 141, 5, 142, 371, 372, 373, 374, 97, 101, 98, 99, 102, 375, 100, 321, 322, 323, 324, 139, 295, 296, 297, 298, 94, 93, 90, 96, 92, 210, 211, 212, 213, 95, 606, 607, 608, 609, 610, 611, 612, 613, 614, 615, 616, 617, 618, 619, 620, 621, 622, 623, 624, 625, 626, 627, 628, 629, 630, 631, 632, 633] rfl (by decide +kernel)
set_option maxRecDepth 20000 in
theorem gL_law_X5_go : GoodIn wsL_law (wsV RL 60 RX5 yX5_go wsX5_go) := goodIn_app (goodIn_r _ [365, 366, 367, 5] rfl (by decide +kernel)) ggL_law_X5_go
set_option maxRecDepth 20000 in
theorem ggL_law_X4_bargains : GoodIn wsL_law wsX4_bargains := goodIn_r _ [379, 22, 380, 381, 601, 602, 603, 604, 605, 643, 644, 645, 646, 647, 648, 649, 650, 651, 652, 653] rfl (by decide +kernel)
set_option maxRecDepth 20000 in
theorem gL_law_X4_bargains : GoodIn wsL_law (wsV RL 61 RX4 yX4_bargains wsX4_bargains) := goodIn_app (goodIn_r _ [376, 377, 378, 2] rfl (by decide +kernel)) ggL_law_X4_bargains
set_option maxRecDepth 20000 in
theorem ggL_law_X5_bargains : GoodIn wsL_law wsX5_bargains := goodIn_r _ [385, 135, 375, 606, 607, 608, 609, 610, 611, 612, 613, 614, 615, 616, 617, 618, 619, 620, 621, 622, 623, 624, 625, 626, 627, 628, 629, 630, 631, 632, 633] rfl (by decide +kernel)
set_option maxRecDepth 20000 in
theorem gL_law_X5_bargains : GoodIn wsL_law (wsV RL 65 RX5 yX5_bargains wsX5_bargains) := goodIn_app (goodIn_r _ [382, 383, 384, 5] rfl (by decide +kernel)) ggL_law_X5_bargains
set_option maxRecDepth 20000 in
theorem ggL_law_X4_bargain : GoodIn wsL_law wsX4_bargain := goodIn_r _ [389, 22, 380, 390, 391, 392, 21, 393, 356, 119, 120, 2, 121, 394, 395, 396, 397, 51, 601, 602, 603, 604, 605, 643, 644, 645, 646, 647, 648, 649, 650, 651, 652, 653] rfl (by decide +kernel)
set_option maxRecDepth 20000 in
theorem gL_law_X4_bargain : GoodIn wsL_law (wsV RL 66 RX4 yX4_bargain wsX4_bargain) := goodIn_app (goodIn_r _ [386, 387, 388, 2] rfl (by decide +kernel)) ggL_law_X4_bargain
set_option maxRecDepth 20000 in
theorem ggL_law_X5_bargain : GoodIn wsL_law wsX5_bargain := goodIn_r _ [401, 135, 375, 402, 102, 140, 141, 5, 142, 606, 607, 608, 609, 610, 611, 612, 613, 614, 615, 616, 617, 618, 619, 620, 621, 622, 623, 624, 625, 626, 627, 628, 629, 630, 631, 632, 633] rfl (by decide +kernel)
set_option maxRecDepth 20000 in
theorem gL_law_X5_bargain : GoodIn wsL_law (wsV RL 69 RX5 yX5_bargain wsX5_bargain) := goodIn_app (goodIn_r _ [398, 399, 400, 5] rfl (by decide +kernel)) ggL_law_X5_bargain
set_option maxRecDepth 20000 in
theorem ggL_law_X4_torn : GoodIn wsL_law wsX4_torn := goodIn_r _ [406, 22, 407, 408, 409, 18, 410, 56, 307, 341, 411, 412, 413, 414, 58, 59, 308, 286, 287, 14, 288, 37, 34, 38, 36, 289, 175, 176, 177, 41, 290, 199, 200, 201, 40, 351, 244, 245, 246, 415, 416, 417, 418, 61, 313, 314, 315, 316, 601, 602, 603, 604, 605, 643, 644, 645, 646, 647, 648, 649, 650, 634, 635, 636, 637, 638, 639, 640, 641, 642] rfl (by decide +kernel)
set_option maxRecDepth 20000 in
theorem gL_law_X4_torn : GoodIn wsL_law (wsV RL 70 RX4 yX4_torn wsX4_torn) := goodIn_app (goodIn_r _ [403, 404, 405, 2] rfl (by decide +kernel)) ggL_law_X4_torn
set_option maxRecDepth 20000 in
theorem ggL_law_X5_torn : GoodIn wsL_law wsX5_torn := goodIn_r _ [422, 135, 139, 157, 98, 99, 101, 423, 424, 425, 5, 426, 295, 296, 297, 298, 94, 93, 90, 96, 92, 210, 211, 212, 213, 95, 606, 607, 608, 609, 610, 611, 612, 613, 614, 615, 616, 617, 618, 619, 620, 621, 622, 623, 624, 625, 626, 627, 628, 629, 630, 631, 632, 633] rfl (by decide +kernel)
set_option maxRecDepth 20000 in
theorem gL_law_X5_torn : GoodIn wsL_law (wsV RL 73 RX5 yX5_torn wsX5_torn) := goodIn_app (goodIn_r _ [419, 420, 421, 5] rfl (by decide +kernel)) ggL_law_X5_torn
set_option maxRecDepth 20000 in
theorem ggL_law_X4_pair : GoodIn wsL_law wsX4_pair := goodIn_r _ [430, 22, 431, 432, 433, 18, 434, 56, 307, 341, 411, 412, 413, 414, 58, 59, 308, 286, 287, 14, 288, 37, 34, 38, 36, 289, 175, 176, 177, 41, 290, 199, 200, 201, 40, 351, 244, 245, 246, 415, 416, 417, 418, 61, 313, 314, 315, 316, 601, 602, 603, 604, 605, 643, 644, 645, 646, 647, 648, 649, 650, 634, 635, 636, 637, 638, 639, 640, 641, 642] rfl (by decide +kernel)
set_option maxRecDepth 20000 in
theorem gL_law_X4_pair : GoodIn wsL_law (wsV RL 74 RX4 yX4_pair wsX4_pair) := goodIn_app (goodIn_r _ [427, 428, 429, 2] rfl (by decide +kernel)) ggL_law_X4_pair
set_option maxRecDepth 20000 in
theorem ggL_law_X5_pair : GoodIn wsL_law wsX5_pair := goodIn_r _ [438, 135, 139, 157, 98, 99, 101, 423, 424, 425, 5, 426, 295, 296, 297, 298, 94, 93, 90, 96, 92, 210, 211, 212, 213, 95, 606, 607, 608, 609, 610, 611, 612, 613, 614, 615, 616, 617, 618, 619, 620, 621, 622, 623, 624, 625, 626, 627, 628, 629, 630, 631, 632, 633] rfl (by decide +kernel)
set_option maxRecDepth 20000 in
theorem gL_law_X5_pair : GoodIn wsL_law (wsV RL 77 RX5 yX5_pair wsX5_pair) := goodIn_app (goodIn_r _ [435, 436, 437, 5] rfl (by decide +kernel)) ggL_law_X5_pair
set_option maxRecDepth 20000 in
theorem ggL_law_X4_foretold : GoodIn wsL_law wsX4_foretold := goodIn_r _ [442, 23, 119, 120, 2, 121, 443, 64, 65, 18, 66, 67, 57, 68, 58, 59, 60, 61, 62, 69, 70, 71, 72, 330, 331, 332, 333, 334, 335, 48, 336, 337, 338, 339, 340, 56, 341, 342, 343, 344, 345, 346, 304, 305, 306, 307, 308, 286, 287, 14, 288, 37, 34, 38, 36, 289, 175, 176, 177, 41, 290, 199, 200, 201, 40, 309, 310, 311, 312, 313, 314, 315, 316, 347, 348, 349, 350, 351, 244, 245, 246, 352, 353, 354, 21, 355, 356, 50, 51, 357, 358, 359, 360, 444, 445, 446, 447, 407, 408, 409, 410, 411, 412, 413, 414, 415, 416, 417, 418, 448, 449, 450, 451, 601, 602, 603, 604, 605, 643, 644, 645, 646, 647, 648, 649, 650, 651, 652, 653, 634, 635, 636, 637, 638, 639, 640, 641, 642] rfl (by decide +kernel)
set_option maxRecDepth 20000 in
theorem gL_law_X4_foretold : GoodIn wsL_law (wsV RL 78 RX4 yX4_foretold wsX4_foretold) := goodIn_app (goodIn_r _ [439, 440, 441, 2] rfl (by decide +kernel)) ggL_law_X4_foretold
set_option maxRecDepth 20000 in
theorem ggL_law_X5_foretold : GoodIn wsL_law wsX5_foretold := goodIn_r _ [455, 135, 136, 139, 109, 110, 157, 111, 140, 141, 5, 142, 456, 457, 458, 459, 108, 321, 322, 323, 324, 295, 296, 297, 298, 94, 93, 90, 96, 92, 210, 211, 212, 213, 95, 423, 424, 425, 426, 606, 607, 608, 609, 610, 611, 612, 613, 614, 615, 616, 617, 618, 619, 620, 621, 622, 623, 624, 625, 626, 627, 628, 629, 630, 631, 632, 633] rfl (by decide +kernel)
set_option maxRecDepth 20000 in
theorem gL_law_X5_foretold : GoodIn wsL_law (wsV RL 81 RX5 yX5_foretold wsX5_foretold) := goodIn_app (goodIn_r _ [452, 453, 454, 5] rfl (by decide +kernel)) ggL_law_X5_foretold
set_option maxRecDepth 20000 in
theorem ggL_law_X4_text : GoodIn wsL_law wsX4_text := goodIn_r _ [463, 28, 119, 120, 2, 121, 601, 602, 603, 604, 605] rfl (by decide +kernel)
set_option maxRecDepth 20000 in
theorem gL_law_X4_text : GoodIn wsL_law (wsV RL 82 RX4 yX4_text wsX4_text) := goodIn_app (goodIn_r _ [460, 461, 462, 2] rfl (by decide +kernel)) ggL_law_X4_text
set_option maxRecDepth 20000 in
theorem ggL_law_X5_text : GoodIn wsL_law wsX5_text := goodIn_r _ [467, 135, 468, 140, 141, 5, 142, 606, 607, 608, 609, 610, 611, 612, 613, 614, 615, 616, 617, 618, 619, 620, 621, 622, 623, 624, 625, 626, 627, 628, 629, 630, 631, 632, 633] rfl (by decide +kernel)
set_option maxRecDepth 20000 in
theorem gL_law_X5_text : GoodIn wsL_law (wsV RL 85 RX5 yX5_text wsX5_text) := goodIn_app (goodIn_r _ [464, 465, 466, 5] rfl (by decide +kernel)) ggL_law_X5_text
set_option maxRecDepth 20000 in
theorem ggL_law_X4_days : GoodIn wsL_law wsX4_days := goodIn_r _ [472, 27, 473, 119, 120, 2, 121, 122, 123, 124, 26, 125, 78, 601, 602, 603, 604, 605, 654, 655, 656, 657, 658, 659] rfl (by decide +kernel)
set_option maxRecDepth 20000 in
theorem gL_law_X4_days : GoodIn wsL_law (wsV RL 86 RX4 yX4_days wsX4_days) := goodIn_app (goodIn_r _ [469, 470, 471, 2] rfl (by decide +kernel)) ggL_law_X4_days
set_option maxRecDepth 20000 in
theorem ggL_law_X5_days : GoodIn wsL_law wsX5_days := goodIn_r _ [477, 135, 478, 103, 140, 141, 5, 142, 606, 607, 608, 609, 610, 611, 612, 613, 614, 615, 616, 617, 618, 619, 620, 621, 622, 623, 624, 625, 626, 627, 628, 629, 630, 631, 632, 633] rfl (by decide +kernel)
set_option maxRecDepth 20000 in
theorem gL_law_X5_days : GoodIn wsL_law (wsV RL 89 RX5 yX5_days wsX5_days) := goodIn_app (goodIn_r _ [474, 475, 476, 5] rfl (by decide +kernel)) ggL_law_X5_days
set_option maxRecDepth 20000 in
theorem ggL_law_X4_sick : GoodIn wsL_law wsX4_sick := goodIn_r _ [482, 15, 27, 237, 171, 172, 14, 173, 130, 119, 120, 2, 121, 483, 484, 485, 26, 486, 78, 242, 123, 124, 125, 487, 488, 489, 490, 77, 79, 243, 244, 245, 18, 246, 58, 491, 492, 493, 494, 495, 335, 48, 336, 84, 496, 497, 498, 499, 500, 501, 502, 503, 504, 505, 601, 602, 603, 604, 605, 634, 635, 636, 637, 638, 639, 640, 641, 642, 654, 655, 656, 657, 658, 659, 643, 644, 645, 646, 647, 648, 649, 650] rfl (by decide +kernel)
set_option maxRecDepth 20000 in
theorem gL_law_X4_sick : GoodIn wsL_law (wsV RL 90 RX4 yX4_sick wsX4_sick) := goodIn_app (goodIn_r _ [479, 480, 481, 2] rfl (by decide +kernel)) ggL_law_X4_sick
set_option maxRecDepth 20000 in
theorem ggL_law_X5_sick : GoodIn wsL_law wsX5_sick := goodIn_r _ [509, 135, 478, 103, 107, 186, 187, 188, 5, 189, 139, 140, 141, 142, 510, 511, 512, 513, 98, 104, 606, 607, 608, 609, 610, 611, 612, 613, 614, 615, 616, 617, 618, 619, 620, 621, 622, 623, 624, 625, 626, 627, 628, 629, 630, 631, 632, 633] rfl (by decide +kernel)
set_option maxRecDepth 20000 in
theorem gL_law_X5_sick : GoodIn wsL_law (wsV RL 93 RX5 yX5_sick wsX5_sick) := goodIn_app (goodIn_r _ [506, 507, 508, 5] rfl (by decide +kernel)) ggL_law_X5_sick
set_option maxRecDepth 20000 in
theorem ggL_law_X4_warn : GoodIn wsL_law wsX4_warn := goodIn_r _ [517, 15, 27, 518, 237, 171, 172, 14, 173, 130, 483, 484, 485, 26, 486, 78, 242, 123, 124, 125, 487, 488, 489, 490, 77, 79, 243, 244, 245, 18, 246, 58, 519, 520, 521, 522, 81, 495, 335, 48, 336, 601, 602, 603, 604, 605, 654, 655, 656, 657, 658, 659, 634, 635, 636, 637, 638, 639, 640, 641, 642, 643, 644, 645, 646, 647, 648, 649, 650] rfl (by decide +kernel)
set_option maxRecDepth 20000 in
theorem gL_law_X4_warn : GoodIn wsL_law (wsV RL 94 RX4 yX4_warn wsX4_warn) := goodIn_app (goodIn_r _ [514, 515, 516, 2] rfl (by decide +kernel)) ggL_law_X4_warn
set_option maxRecDepth 20000 in
theorem ggL_law_X5_warn : GoodIn wsL_law wsX5_warn := goodIn_r _ [526, 135, 103, 105, 104, 186, 187, 188, 5, 189, 139, 140, 141, 142, 510, 511, 512, 513, 98, 606, 607, 608, 609, 610, 611, 612, 613, 614, 615, 616, 617, 618, 619, 620, 621, 622, 623, 624, 625, 626, 627, 628, 629, 630, 631, 632, 633] rfl (by decide +kernel)
set_option maxRecDepth 20000 in
theorem gL_law_X5_warn : GoodIn wsL_law (wsV RL 97 RX5 yX5_warn wsX5_warn) := goodIn_app (goodIn_r _ [523, 524, 525, 5] rfl (by decide +kernel)) ggL_law_X5_warn
set_option maxRecDepth 20000 in
theorem ggL_law_X4_run : GoodIn wsL_law wsX4_run := goodIn_r _ [530, 15, 27, 531, 28, 237, 171, 172, 14, 173, 130, 483, 484, 485, 26, 486, 78, 242, 123, 124, 125, 487, 488, 489, 490, 77, 79, 243, 244, 245, 18, 246, 58, 532, 533, 534, 535, 601, 602, 603, 604, 605, 654, 655, 656, 657, 658, 659, 634, 635, 636, 637, 638, 639, 640, 641, 642, 643, 644, 645, 646, 647, 648, 649, 650] rfl (by decide +kernel)
set_option maxRecDepth 20000 in
theorem gL_law_X4_run : GoodIn wsL_law (wsV RL 98 RX4 yX4_run wsX4_run) := goodIn_app (goodIn_r _ [527, 528, 529, 2] rfl (by decide +kernel)) ggL_law_X4_run
set_option maxRecDepth 20000 in
theorem ggL_law_X5_run : GoodIn wsL_law wsX5_run := goodIn_r _ [539, 135, 103, 104, 106, 468, 186, 187, 188, 5, 189, 139, 140, 141, 142, 510, 511, 512, 513, 98, 606, 607, 608, 609, 610, 611, 612, 613, 614, 615, 616, 617, 618, 619, 620, 621, 622, 623, 624, 625, 626, 627, 628, 629, 630, 631, 632, 633] rfl (by decide +kernel)
set_option maxRecDepth 20000 in
theorem gL_law_X5_run : GoodIn wsL_law (wsV RL 101 RX5 yX5_run wsX5_run) := goodIn_app (goodIn_r _ [536, 537, 538, 5] rfl (by decide +kernel)) ggL_law_X5_run
set_option maxRecDepth 20000 in
theorem ggL_law_X4_send : GoodIn wsL_law wsX4_send := goodIn_r _ [543, 15, 27, 237, 171, 172, 14, 173, 130, 483, 484, 485, 26, 486, 78, 242, 123, 124, 125, 487, 488, 489, 490, 77, 79, 243, 244, 245, 18, 246, 58, 544, 545, 546, 2, 547, 22, 234, 232, 198, 199, 200, 201, 40, 532, 533, 534, 535, 601, 602, 603, 604, 605, 634, 635, 636, 637, 638, 639, 640, 641, 642, 654, 655, 656, 657, 658, 659, 643, 644, 645, 646, 647, 648, 649, 650] rfl (by decide +kernel)
set_option maxRecDepth 20000 in
theorem gL_law_X4_send : GoodIn wsL_law (wsV RL 102 RX4 yX4_send wsX4_send) := goodIn_app (goodIn_r _ [540, 541, 542, 2] rfl (by decide +kernel)) ggL_law_X4_send
set_option maxRecDepth 20000 in
theorem ggL_law_X5_send : GoodIn wsL_law wsX5_send := goodIn_r _ [551, 135, 103, 98, 91, 104, 186, 187, 188, 5, 189, 139, 140, 141, 142, 510, 511, 512, 513, 210, 211, 212, 213, 95, 606, 607, 608, 609, 610, 611, 612, 613, 614, 615, 616, 617, 618, 619, 620, 621, 622, 623, 624, 625, 626, 627, 628, 629, 630, 631, 632, 633] rfl (by decide +kernel)
set_option maxRecDepth 20000 in
theorem gL_law_X5_send : GoodIn wsL_law (wsV RL 105 RX5 yX5_send wsX5_send) := goodIn_app (goodIn_r _ [548, 549, 550, 5] rfl (by decide +kernel)) ggL_law_X5_send
set_option maxRecDepth 20000 in
theorem ggL_law_X4_due : GoodIn wsL_law wsX4_due := goodIn_r _ [555, 15, 27, 22, 237, 171, 172, 14, 173, 130, 556, 557, 2, 558, 119, 120, 121, 122, 123, 124, 26, 125, 78, 559, 244, 245, 18, 246, 58, 560, 561, 562, 563, 82, 79, 495, 335, 48, 336, 77, 564, 565, 503, 504, 505, 84, 496, 497, 498, 499, 500, 501, 601, 602, 603, 604, 605, 634, 635, 636, 637, 638, 639, 640, 641, 642, 654, 655, 656, 657, 658, 659, 643, 644, 645, 646, 647, 648, 649, 650] rfl (by decide +kernel)
set_option maxRecDepth 20000 in
theorem gL_law_X4_due : GoodIn wsL_law (wsV RL 106 RX4 yX4_due wsX4_due) := goodIn_app (goodIn_r _ [552, 553, 554, 2] rfl (by decide +kernel)) ggL_law_X4_due
set_option maxRecDepth 20000 in
theorem ggL_law_X5_due : GoodIn wsL_law wsX5_due := goodIn_r _ [569, 135, 478, 103, 98, 186, 187, 188, 5, 189, 139, 140, 141, 142, 570, 571, 572, 573, 104, 107, 106, 99, 606, 607, 608, 609, 610, 611, 612, 613, 614, 615, 616, 617, 618, 619, 620, 621, 622, 623, 624, 625, 626, 627, 628, 629, 630, 631, 632, 633] rfl (by decide +kernel)
set_option maxRecDepth 20000 in
theorem gL_law_X5_due : GoodIn wsL_law (wsV RL 109 RX5 yX5_due wsX5_due) := goodIn_app (goodIn_r _ [566, 567, 568, 5] rfl (by decide +kernel)) ggL_law_X5_due
set_option maxRecDepth 20000 in
theorem ggL_law_X4_owes : GoodIn wsL_law wsX4_owes := goodIn_r _ [577, 15, 27, 22, 257, 218, 167, 168, 14, 169, 151, 556, 557, 2, 558, 119, 120, 121, 122, 123, 124, 26, 125, 78, 560, 561, 562, 563, 82, 79, 495, 335, 48, 336, 77, 564, 565, 503, 504, 505, 84, 496, 497, 498, 499, 500, 501, 601, 602, 603, 604, 605, 643, 644, 645, 646, 647, 648, 649, 650, 634, 635, 636, 637, 638, 639, 640, 641, 642, 654, 655, 656, 657, 658, 659] rfl (by decide +kernel)
set_option maxRecDepth 20000 in
theorem gL_law_X4_owes : GoodIn wsL_law (wsV RL 110 RX4 yX4_owes wsX4_owes) := goodIn_app (goodIn_r _ [574, 575, 576, 2] rfl (by decide +kernel)) ggL_law_X4_owes
set_option maxRecDepth 20000 in
theorem ggL_law_X5_owes : GoodIn wsL_law wsX5_owes := goodIn_r _ [581, 135, 478, 103, 101, 190, 191, 192, 5, 193, 157, 140, 141, 142, 570, 571, 572, 573, 104, 107, 106, 99, 606, 607, 608, 609, 610, 611, 612, 613, 614, 615, 616, 617, 618, 619, 620, 621, 622, 623, 624, 625, 626, 627, 628, 629, 630, 631, 632, 633] rfl (by decide +kernel)
set_option maxRecDepth 20000 in
theorem gL_law_X5_owes : GoodIn wsL_law (wsV RL 113 RX5 yX5_owes wsX5_owes) := goodIn_app (goodIn_r _ [578, 579, 580, 5] rfl (by decide +kernel)) ggL_law_X5_owes
set_option maxRecDepth 20000 in
theorem ggL_law_X4_hands : GoodIn wsL_law wsX4_hands := goodIn_r _ [585, 27, 15, 586, 231, 116, 117, 2, 118, 119, 120, 121, 556, 557, 558, 122, 123, 124, 26, 125, 78, 587, 488, 489, 490, 77, 79, 243, 244, 245, 18, 246, 58, 601, 602, 603, 604, 605, 634, 635, 636, 637, 638, 639, 640, 641, 642, 654, 655, 656, 657, 658, 659, 643, 644, 645, 646, 647, 648, 649, 650] rfl (by decide +kernel)
set_option maxRecDepth 20000 in
theorem gL_law_X4_hands : GoodIn wsL_law (wsV RL 114 RX4 yX4_hands wsX4_hands) := goodIn_app (goodIn_r _ [582, 583, 584, 2] rfl (by decide +kernel)) ggL_law_X4_hands
set_option maxRecDepth 20000 in
theorem ggL_law_X5_hands : GoodIn wsL_law wsX5_hands := goodIn_r _ [591, 135, 136, 478, 103, 139, 90, 140, 141, 5, 142, 510, 511, 512, 513, 98, 104, 606, 607, 608, 609, 610, 611, 612, 613, 614, 615, 616, 617, 618, 619, 620, 621, 622, 623, 624, 625, 626, 627, 628, 629, 630, 631, 632, 633] rfl (by decide +kernel)
set_option maxRecDepth 20000 in
theorem gL_law_X5_hands : GoodIn wsL_law (wsV RL 117 RX5 yX5_hands wsX5_hands) := goodIn_app (goodIn_r _ [588, 589, 590, 5] rfl (by decide +kernel)) ggL_law_X5_hands
set_option maxRecDepth 20000 in
theorem ggL_law_X4_total : GoodIn wsL_law wsX4_total := goodIn_r _ [595, 15, 586, 596, 22, 329, 27, 473, 28, 444, 445, 446, 18, 447, 56, 307, 351, 244, 245, 246, 58, 448, 449, 450, 451, 59, 601, 602, 603, 604, 605, 634, 635, 636, 637, 638, 639, 640, 641, 642, 643, 644, 645, 646, 647, 648, 649, 650, 654, 655, 656, 657, 658, 659] rfl (by decide +kernel)
set_option maxRecDepth 20000 in
theorem gL_law_X4_total : GoodIn wsL_law (wsV RL 118 RX4 yX4_total wsX4_total) := goodIn_app (goodIn_r _ [592, 593, 594, 2] rfl (by decide +kernel)) ggL_law_X4_total
set_option maxRecDepth 20000 in
theorem ggL_law_X5_total : GoodIn wsL_law wsX5_total := goodIn_r _ [600, 135, 139, 98, 99, 157, 370, 103, 468, 606, 607, 608, 609, 610, 611, 612, 613, 614, 615, 616, 617, 618, 619, 620, 621, 622, 623, 624, 625, 626, 627, 628, 629, 630, 631, 632, 633] rfl (by decide +kernel)
set_option maxRecDepth 20000 in
theorem gL_law_X5_total : GoodIn wsL_law (wsV RL 121 RX5 yX5_total wsX5_total) := goodIn_app (goodIn_r _ [597, 598, 599, 5] rfl (by decide +kernel)) ggL_law_X5_total
theorem dL_law_0 : decode cL_law 0 = .ok (.new 7, 3) := by decide +kernel
theorem dL_law_3 : decode cL_law 3 = .ok (.dup, 1) := by decide +kernel
theorem dL_law_4 : decode cL_law 4 = .ok (.invokespecial 9, 3) := by decide +kernel
theorem dL_law_7 : decode cL_law 7 = .ok (.astore_n 1, 1) := by decide +kernel
theorem dL_law_8 : decode cL_law 8 = .ok (.new 10, 3) := by decide +kernel
theorem dL_law_11 : decode cL_law 11 = .ok (.dup, 1) := by decide +kernel
theorem dL_law_12 : decode cL_law 12 = .ok (.invokespecial 12, 3) := by decide +kernel
theorem dL_law_15 : decode cL_law 15 = .ok (.astore_n 2, 1) := by decide +kernel
theorem dL_law_16 : decode cL_law 16 = .ok (.iconst 0, 1) := by decide +kernel
theorem dL_law_17 : decode cL_law 17 = .ok (.istore_n 3, 1) := by decide +kernel
theorem dL_law_18 : decode cL_law 18 = .ok (.iload_n 3, 1) := by decide +kernel
theorem dL_law_19 : decode cL_law 19 = .ok (.aload_n 0, 1) := by decide +kernel
theorem dL_law_20 : decode cL_law 20 = .ok (.arraylength, 1) := by decide +kernel
theorem dL_law_21 : decode cL_law 21 = .ok (.iconst 4, 1) := by decide +kernel
theorem dL_law_22 : decode cL_law 22 = .ok (.isub, 1) := by decide +kernel
theorem dL_law_23 : decode cL_law 23 = .ok (.if_icmp .gt 919, 3) := by decide +kernel
theorem dL_law_26 : decode cL_law 26 = .ok (.aload_n 0, 1) := by decide +kernel
theorem dL_law_27 : decode cL_law 27 = .ok (.iload_n 3, 1) := by decide +kernel
theorem dL_law_28 : decode cL_law 28 = .ok (.iaload, 1) := by decide +kernel
theorem dL_law_29 : decode cL_law 29 = .ok (.bipush 31, 2) := by decide +kernel
theorem dL_law_31 : decode cL_law 31 = .ok (.iand, 1) := by decide +kernel
theorem dL_law_32 : decode cL_law 32 = .ok (.tableswitch 904 0 25 #[120, 163, 196, 255, 298, 341, 374, 407, 440, 473, 496, 519, 532, 565, 578, 601, 634, 657, 680, 713, 736, 759, 782, 815, 848, 881], 120) := by decide +kernel
theorem dL_law_152 : decode cL_law 152 = .ok (.aload_n 1, 1) := by decide +kernel
theorem dL_law_153 : decode cL_law 153 = .ok (.aload_n 0, 1) := by decide +kernel
theorem dL_law_154 : decode cL_law 154 = .ok (.iload_n 3, 1) := by decide +kernel
theorem dL_law_155 : decode cL_law 155 = .ok (.iconst 1, 1) := by decide +kernel
theorem dL_law_156 : decode cL_law 156 = .ok (.iadd, 1) := by decide +kernel
theorem dL_law_157 : decode cL_law 157 = .ok (.iaload, 1) := by decide +kernel
theorem dL_law_158 : decode cL_law 158 = .ok (.aload_n 0, 1) := by decide +kernel
theorem dL_law_159 : decode cL_law 159 = .ok (.iload_n 3, 1) := by decide +kernel
theorem dL_law_160 : decode cL_law 160 = .ok (.iconst 2, 1) := by decide +kernel
theorem dL_law_161 : decode cL_law 161 = .ok (.iadd, 1) := by decide +kernel
theorem dL_law_162 : decode cL_law 162 = .ok (.iaload, 1) := by decide +kernel
theorem dL_law_163 : decode cL_law 163 = .ok (.aload_n 0, 1) := by decide +kernel
theorem dL_law_164 : decode cL_law 164 = .ok (.iload_n 3, 1) := by decide +kernel
theorem dL_law_165 : decode cL_law 165 = .ok (.iconst 3, 1) := by decide +kernel
theorem dL_law_166 : decode cL_law 166 = .ok (.iadd, 1) := by decide +kernel
theorem dL_law_167 : decode cL_law 167 = .ok (.iaload, 1) := by decide +kernel
theorem dL_law_168 : decode cL_law 168 = .ok (.invokevirtual 13, 3) := by decide +kernel
theorem dL_law_171 : decode cL_law 171 = .ok (.aload_n 2, 1) := by decide +kernel
theorem dL_law_172 : decode cL_law 172 = .ok (.aload_n 0, 1) := by decide +kernel
theorem dL_law_173 : decode cL_law 173 = .ok (.iload_n 3, 1) := by decide +kernel
theorem dL_law_174 : decode cL_law 174 = .ok (.iconst 1, 1) := by decide +kernel
theorem dL_law_175 : decode cL_law 175 = .ok (.iadd, 1) := by decide +kernel
theorem dL_law_176 : decode cL_law 176 = .ok (.iaload, 1) := by decide +kernel
theorem dL_law_177 : decode cL_law 177 = .ok (.aload_n 0, 1) := by decide +kernel
theorem dL_law_178 : decode cL_law 178 = .ok (.iload_n 3, 1) := by decide +kernel
theorem dL_law_179 : decode cL_law 179 = .ok (.iconst 2, 1) := by decide +kernel
theorem dL_law_180 : decode cL_law 180 = .ok (.iadd, 1) := by decide +kernel
theorem dL_law_181 : decode cL_law 181 = .ok (.iaload, 1) := by decide +kernel
theorem dL_law_182 : decode cL_law 182 = .ok (.aload_n 0, 1) := by decide +kernel
theorem dL_law_183 : decode cL_law 183 = .ok (.iload_n 3, 1) := by decide +kernel
theorem dL_law_184 : decode cL_law 184 = .ok (.iconst 3, 1) := by decide +kernel
theorem dL_law_185 : decode cL_law 185 = .ok (.iadd, 1) := by decide +kernel
theorem dL_law_186 : decode cL_law 186 = .ok (.iaload, 1) := by decide +kernel
theorem dL_law_187 : decode cL_law 187 = .ok (.invokevirtual 17, 3) := by decide +kernel
theorem dL_law_190 : decode cL_law 190 = .ok (.if_icmp .eq 746, 3) := by decide +kernel
theorem dL_law_193 : decode cL_law 193 = .ok (.iconst 0, 1) := by decide +kernel
theorem dL_law_194 : decode cL_law 194 = .ok (.ireturn, 1) := by decide +kernel
theorem dL_law_195 : decode cL_law 195 = .ok (.aload_n 1, 1) := by decide +kernel
theorem dL_law_196 : decode cL_law 196 = .ok (.aload_n 0, 1) := by decide +kernel
theorem dL_law_197 : decode cL_law 197 = .ok (.iload_n 3, 1) := by decide +kernel
theorem dL_law_198 : decode cL_law 198 = .ok (.iconst 1, 1) := by decide +kernel
theorem dL_law_199 : decode cL_law 199 = .ok (.iadd, 1) := by decide +kernel
theorem dL_law_200 : decode cL_law 200 = .ok (.iaload, 1) := by decide +kernel
theorem dL_law_201 : decode cL_law 201 = .ok (.aload_n 0, 1) := by decide +kernel
theorem dL_law_202 : decode cL_law 202 = .ok (.iload_n 3, 1) := by decide +kernel
theorem dL_law_203 : decode cL_law 203 = .ok (.iconst 2, 1) := by decide +kernel
theorem dL_law_204 : decode cL_law 204 = .ok (.iadd, 1) := by decide +kernel
theorem dL_law_205 : decode cL_law 205 = .ok (.iaload, 1) := by decide +kernel
theorem dL_law_206 : decode cL_law 206 = .ok (.invokevirtual 18, 3) := by decide +kernel
theorem dL_law_209 : decode cL_law 209 = .ok (.aload_n 2, 1) := by decide +kernel
theorem dL_law_210 : decode cL_law 210 = .ok (.aload_n 0, 1) := by decide +kernel
theorem dL_law_211 : decode cL_law 211 = .ok (.iload_n 3, 1) := by decide +kernel
theorem dL_law_212 : decode cL_law 212 = .ok (.iconst 1, 1) := by decide +kernel
theorem dL_law_213 : decode cL_law 213 = .ok (.iadd, 1) := by decide +kernel
theorem dL_law_214 : decode cL_law 214 = .ok (.iaload, 1) := by decide +kernel
theorem dL_law_215 : decode cL_law 215 = .ok (.aload_n 0, 1) := by decide +kernel
theorem dL_law_216 : decode cL_law 216 = .ok (.iload_n 3, 1) := by decide +kernel
theorem dL_law_217 : decode cL_law 217 = .ok (.iconst 2, 1) := by decide +kernel
theorem dL_law_218 : decode cL_law 218 = .ok (.iadd, 1) := by decide +kernel
theorem dL_law_219 : decode cL_law 219 = .ok (.iaload, 1) := by decide +kernel
theorem dL_law_220 : decode cL_law 220 = .ok (.invokevirtual 22, 3) := by decide +kernel
theorem dL_law_223 : decode cL_law 223 = .ok (.if_icmp .eq 713, 3) := by decide +kernel
theorem dL_law_226 : decode cL_law 226 = .ok (.iconst 0, 1) := by decide +kernel
theorem dL_law_227 : decode cL_law 227 = .ok (.ireturn, 1) := by decide +kernel
theorem dL_law_228 : decode cL_law 228 = .ok (.aload_n 1, 1) := by decide +kernel
theorem dL_law_229 : decode cL_law 229 = .ok (.aload_n 0, 1) := by decide +kernel
theorem dL_law_230 : decode cL_law 230 = .ok (.iload_n 3, 1) := by decide +kernel
theorem dL_law_231 : decode cL_law 231 = .ok (.iconst 1, 1) := by decide +kernel
theorem dL_law_232 : decode cL_law 232 = .ok (.iadd, 1) := by decide +kernel
theorem dL_law_233 : decode cL_law 233 = .ok (.iaload, 1) := by decide +kernel
theorem dL_law_234 : decode cL_law 234 = .ok (.aload_n 0, 1) := by decide +kernel
theorem dL_law_235 : decode cL_law 235 = .ok (.iload_n 3, 1) := by decide +kernel
theorem dL_law_236 : decode cL_law 236 = .ok (.iconst 2, 1) := by decide +kernel
theorem dL_law_237 : decode cL_law 237 = .ok (.iadd, 1) := by decide +kernel
theorem dL_law_238 : decode cL_law 238 = .ok (.iaload, 1) := by decide +kernel
theorem dL_law_239 : decode cL_law 239 = .ok (.aload_n 0, 1) := by decide +kernel
theorem dL_law_240 : decode cL_law 240 = .ok (.iload_n 3, 1) := by decide +kernel
theorem dL_law_241 : decode cL_law 241 = .ok (.iconst 3, 1) := by decide +kernel
theorem dL_law_242 : decode cL_law 242 = .ok (.iadd, 1) := by decide +kernel
theorem dL_law_243 : decode cL_law 243 = .ok (.iaload, 1) := by decide +kernel
theorem dL_law_244 : decode cL_law 244 = .ok (.ifCond .eq 7, 3) := by decide +kernel
theorem dL_law_247 : decode cL_law 247 = .ok (.iconst 1, 1) := by decide +kernel
theorem dL_law_248 : decode cL_law 248 = .ok (.goto 4, 3) := by decide +kernel
theorem dL_law_251 : decode cL_law 251 = .ok (.iconst 0, 1) := by decide +kernel
theorem dL_law_252 : decode cL_law 252 = .ok (.invokevirtual 23, 3) := by decide +kernel
theorem dL_law_255 : decode cL_law 255 = .ok (.aload_n 2, 1) := by decide +kernel
theorem dL_law_256 : decode cL_law 256 = .ok (.aload_n 0, 1) := by decide +kernel
theorem dL_law_257 : decode cL_law 257 = .ok (.iload_n 3, 1) := by decide +kernel
theorem dL_law_258 : decode cL_law 258 = .ok (.iconst 1, 1) := by decide +kernel
theorem dL_law_259 : decode cL_law 259 = .ok (.iadd, 1) := by decide +kernel
theorem dL_law_260 : decode cL_law 260 = .ok (.iaload, 1) := by decide +kernel
theorem dL_law_261 : decode cL_law 261 = .ok (.aload_n 0, 1) := by decide +kernel
theorem dL_law_262 : decode cL_law 262 = .ok (.iload_n 3, 1) := by decide +kernel
theorem dL_law_263 : decode cL_law 263 = .ok (.iconst 2, 1) := by decide +kernel
theorem dL_law_264 : decode cL_law 264 = .ok (.iadd, 1) := by decide +kernel
theorem dL_law_265 : decode cL_law 265 = .ok (.iaload, 1) := by decide +kernel
theorem dL_law_266 : decode cL_law 266 = .ok (.aload_n 0, 1) := by decide +kernel
theorem dL_law_267 : decode cL_law 267 = .ok (.iload_n 3, 1) := by decide +kernel
theorem dL_law_268 : decode cL_law 268 = .ok (.iconst 3, 1) := by decide +kernel
theorem dL_law_269 : decode cL_law 269 = .ok (.iadd, 1) := by decide +kernel
theorem dL_law_270 : decode cL_law 270 = .ok (.iaload, 1) := by decide +kernel
theorem dL_law_271 : decode cL_law 271 = .ok (.ifCond .eq 7, 3) := by decide +kernel
theorem dL_law_274 : decode cL_law 274 = .ok (.iconst 1, 1) := by decide +kernel
theorem dL_law_275 : decode cL_law 275 = .ok (.goto 4, 3) := by decide +kernel
theorem dL_law_278 : decode cL_law 278 = .ok (.iconst 0, 1) := by decide +kernel
theorem dL_law_279 : decode cL_law 279 = .ok (.invokevirtual 27, 3) := by decide +kernel
theorem dL_law_282 : decode cL_law 282 = .ok (.if_icmp .eq 654, 3) := by decide +kernel
theorem dL_law_285 : decode cL_law 285 = .ok (.iconst 0, 1) := by decide +kernel
theorem dL_law_286 : decode cL_law 286 = .ok (.ireturn, 1) := by decide +kernel
theorem dL_law_287 : decode cL_law 287 = .ok (.aload_n 1, 1) := by decide +kernel
theorem dL_law_288 : decode cL_law 288 = .ok (.aload_n 0, 1) := by decide +kernel
theorem dL_law_289 : decode cL_law 289 = .ok (.iload_n 3, 1) := by decide +kernel
theorem dL_law_290 : decode cL_law 290 = .ok (.iconst 1, 1) := by decide +kernel
theorem dL_law_291 : decode cL_law 291 = .ok (.iadd, 1) := by decide +kernel
theorem dL_law_292 : decode cL_law 292 = .ok (.iaload, 1) := by decide +kernel
theorem dL_law_293 : decode cL_law 293 = .ok (.aload_n 0, 1) := by decide +kernel
theorem dL_law_294 : decode cL_law 294 = .ok (.iload_n 3, 1) := by decide +kernel
theorem dL_law_295 : decode cL_law 295 = .ok (.iconst 2, 1) := by decide +kernel
theorem dL_law_296 : decode cL_law 296 = .ok (.iadd, 1) := by decide +kernel
theorem dL_law_297 : decode cL_law 297 = .ok (.iaload, 1) := by decide +kernel
theorem dL_law_298 : decode cL_law 298 = .ok (.aload_n 0, 1) := by decide +kernel
theorem dL_law_299 : decode cL_law 299 = .ok (.iload_n 3, 1) := by decide +kernel
theorem dL_law_300 : decode cL_law 300 = .ok (.iconst 3, 1) := by decide +kernel
theorem dL_law_301 : decode cL_law 301 = .ok (.iadd, 1) := by decide +kernel
theorem dL_law_302 : decode cL_law 302 = .ok (.iaload, 1) := by decide +kernel
theorem dL_law_303 : decode cL_law 303 = .ok (.invokevirtual 28, 3) := by decide +kernel
theorem dL_law_306 : decode cL_law 306 = .ok (.aload_n 2, 1) := by decide +kernel
theorem dL_law_307 : decode cL_law 307 = .ok (.aload_n 0, 1) := by decide +kernel
theorem dL_law_308 : decode cL_law 308 = .ok (.iload_n 3, 1) := by decide +kernel
theorem dL_law_309 : decode cL_law 309 = .ok (.iconst 1, 1) := by decide +kernel
theorem dL_law_310 : decode cL_law 310 = .ok (.iadd, 1) := by decide +kernel
theorem dL_law_311 : decode cL_law 311 = .ok (.iaload, 1) := by decide +kernel
theorem dL_law_312 : decode cL_law 312 = .ok (.aload_n 0, 1) := by decide +kernel
theorem dL_law_313 : decode cL_law 313 = .ok (.iload_n 3, 1) := by decide +kernel
theorem dL_law_314 : decode cL_law 314 = .ok (.iconst 2, 1) := by decide +kernel
theorem dL_law_315 : decode cL_law 315 = .ok (.iadd, 1) := by decide +kernel
theorem dL_law_316 : decode cL_law 316 = .ok (.iaload, 1) := by decide +kernel
theorem dL_law_317 : decode cL_law 317 = .ok (.aload_n 0, 1) := by decide +kernel
theorem dL_law_318 : decode cL_law 318 = .ok (.iload_n 3, 1) := by decide +kernel
theorem dL_law_319 : decode cL_law 319 = .ok (.iconst 3, 1) := by decide +kernel
theorem dL_law_320 : decode cL_law 320 = .ok (.iadd, 1) := by decide +kernel
theorem dL_law_321 : decode cL_law 321 = .ok (.iaload, 1) := by decide +kernel
theorem dL_law_322 : decode cL_law 322 = .ok (.invokevirtual 31, 3) := by decide +kernel
theorem dL_law_325 : decode cL_law 325 = .ok (.if_icmp .eq 611, 3) := by decide +kernel
theorem dL_law_328 : decode cL_law 328 = .ok (.iconst 0, 1) := by decide +kernel
theorem dL_law_329 : decode cL_law 329 = .ok (.ireturn, 1) := by decide +kernel
theorem dL_law_330 : decode cL_law 330 = .ok (.aload_n 1, 1) := by decide +kernel
theorem dL_law_331 : decode cL_law 331 = .ok (.aload_n 0, 1) := by decide +kernel
theorem dL_law_332 : decode cL_law 332 = .ok (.iload_n 3, 1) := by decide +kernel
theorem dL_law_333 : decode cL_law 333 = .ok (.iconst 1, 1) := by decide +kernel
theorem dL_law_334 : decode cL_law 334 = .ok (.iadd, 1) := by decide +kernel
theorem dL_law_335 : decode cL_law 335 = .ok (.iaload, 1) := by decide +kernel
theorem dL_law_336 : decode cL_law 336 = .ok (.aload_n 0, 1) := by decide +kernel
theorem dL_law_337 : decode cL_law 337 = .ok (.iload_n 3, 1) := by decide +kernel
theorem dL_law_338 : decode cL_law 338 = .ok (.iconst 2, 1) := by decide +kernel
theorem dL_law_339 : decode cL_law 339 = .ok (.iadd, 1) := by decide +kernel
theorem dL_law_340 : decode cL_law 340 = .ok (.iaload, 1) := by decide +kernel
theorem dL_law_341 : decode cL_law 341 = .ok (.aload_n 0, 1) := by decide +kernel
theorem dL_law_342 : decode cL_law 342 = .ok (.iload_n 3, 1) := by decide +kernel
theorem dL_law_343 : decode cL_law 343 = .ok (.iconst 3, 1) := by decide +kernel
theorem dL_law_344 : decode cL_law 344 = .ok (.iadd, 1) := by decide +kernel
theorem dL_law_345 : decode cL_law 345 = .ok (.iaload, 1) := by decide +kernel
theorem dL_law_346 : decode cL_law 346 = .ok (.invokevirtual 32, 3) := by decide +kernel
theorem dL_law_349 : decode cL_law 349 = .ok (.aload_n 2, 1) := by decide +kernel
theorem dL_law_350 : decode cL_law 350 = .ok (.aload_n 0, 1) := by decide +kernel
theorem dL_law_351 : decode cL_law 351 = .ok (.iload_n 3, 1) := by decide +kernel
theorem dL_law_352 : decode cL_law 352 = .ok (.iconst 1, 1) := by decide +kernel
theorem dL_law_353 : decode cL_law 353 = .ok (.iadd, 1) := by decide +kernel
theorem dL_law_354 : decode cL_law 354 = .ok (.iaload, 1) := by decide +kernel
theorem dL_law_355 : decode cL_law 355 = .ok (.aload_n 0, 1) := by decide +kernel
theorem dL_law_356 : decode cL_law 356 = .ok (.iload_n 3, 1) := by decide +kernel
theorem dL_law_357 : decode cL_law 357 = .ok (.iconst 2, 1) := by decide +kernel
theorem dL_law_358 : decode cL_law 358 = .ok (.iadd, 1) := by decide +kernel
theorem dL_law_359 : decode cL_law 359 = .ok (.iaload, 1) := by decide +kernel
theorem dL_law_360 : decode cL_law 360 = .ok (.aload_n 0, 1) := by decide +kernel
theorem dL_law_361 : decode cL_law 361 = .ok (.iload_n 3, 1) := by decide +kernel
theorem dL_law_362 : decode cL_law 362 = .ok (.iconst 3, 1) := by decide +kernel
theorem dL_law_363 : decode cL_law 363 = .ok (.iadd, 1) := by decide +kernel
theorem dL_law_364 : decode cL_law 364 = .ok (.iaload, 1) := by decide +kernel
theorem dL_law_365 : decode cL_law 365 = .ok (.invokevirtual 35, 3) := by decide +kernel
theorem dL_law_368 : decode cL_law 368 = .ok (.if_icmp .eq 568, 3) := by decide +kernel
theorem dL_law_371 : decode cL_law 371 = .ok (.iconst 0, 1) := by decide +kernel
theorem dL_law_372 : decode cL_law 372 = .ok (.ireturn, 1) := by decide +kernel
theorem dL_law_373 : decode cL_law 373 = .ok (.aload_n 1, 1) := by decide +kernel
theorem dL_law_374 : decode cL_law 374 = .ok (.aload_n 0, 1) := by decide +kernel
theorem dL_law_375 : decode cL_law 375 = .ok (.iload_n 3, 1) := by decide +kernel
theorem dL_law_376 : decode cL_law 376 = .ok (.iconst 1, 1) := by decide +kernel
theorem dL_law_377 : decode cL_law 377 = .ok (.iadd, 1) := by decide +kernel
theorem dL_law_378 : decode cL_law 378 = .ok (.iaload, 1) := by decide +kernel
theorem dL_law_379 : decode cL_law 379 = .ok (.aload_n 0, 1) := by decide +kernel
theorem dL_law_380 : decode cL_law 380 = .ok (.iload_n 3, 1) := by decide +kernel
theorem dL_law_381 : decode cL_law 381 = .ok (.iconst 2, 1) := by decide +kernel
theorem dL_law_382 : decode cL_law 382 = .ok (.iadd, 1) := by decide +kernel
theorem dL_law_383 : decode cL_law 383 = .ok (.iaload, 1) := by decide +kernel
theorem dL_law_384 : decode cL_law 384 = .ok (.invokevirtual 36, 3) := by decide +kernel
theorem dL_law_387 : decode cL_law 387 = .ok (.aload_n 2, 1) := by decide +kernel
theorem dL_law_388 : decode cL_law 388 = .ok (.aload_n 0, 1) := by decide +kernel
theorem dL_law_389 : decode cL_law 389 = .ok (.iload_n 3, 1) := by decide +kernel
theorem dL_law_390 : decode cL_law 390 = .ok (.iconst 1, 1) := by decide +kernel
theorem dL_law_391 : decode cL_law 391 = .ok (.iadd, 1) := by decide +kernel
theorem dL_law_392 : decode cL_law 392 = .ok (.iaload, 1) := by decide +kernel
theorem dL_law_393 : decode cL_law 393 = .ok (.aload_n 0, 1) := by decide +kernel
theorem dL_law_394 : decode cL_law 394 = .ok (.iload_n 3, 1) := by decide +kernel
theorem dL_law_395 : decode cL_law 395 = .ok (.iconst 2, 1) := by decide +kernel
theorem dL_law_396 : decode cL_law 396 = .ok (.iadd, 1) := by decide +kernel
theorem dL_law_397 : decode cL_law 397 = .ok (.iaload, 1) := by decide +kernel
theorem dL_law_398 : decode cL_law 398 = .ok (.invokevirtual 39, 3) := by decide +kernel
theorem dL_law_401 : decode cL_law 401 = .ok (.if_icmp .eq 535, 3) := by decide +kernel
theorem dL_law_404 : decode cL_law 404 = .ok (.iconst 0, 1) := by decide +kernel
theorem dL_law_405 : decode cL_law 405 = .ok (.ireturn, 1) := by decide +kernel
theorem dL_law_406 : decode cL_law 406 = .ok (.aload_n 1, 1) := by decide +kernel
theorem dL_law_407 : decode cL_law 407 = .ok (.aload_n 0, 1) := by decide +kernel
theorem dL_law_408 : decode cL_law 408 = .ok (.iload_n 3, 1) := by decide +kernel
theorem dL_law_409 : decode cL_law 409 = .ok (.iconst 1, 1) := by decide +kernel
theorem dL_law_410 : decode cL_law 410 = .ok (.iadd, 1) := by decide +kernel
theorem dL_law_411 : decode cL_law 411 = .ok (.iaload, 1) := by decide +kernel
theorem dL_law_412 : decode cL_law 412 = .ok (.aload_n 0, 1) := by decide +kernel
theorem dL_law_413 : decode cL_law 413 = .ok (.iload_n 3, 1) := by decide +kernel
theorem dL_law_414 : decode cL_law 414 = .ok (.iconst 2, 1) := by decide +kernel
theorem dL_law_415 : decode cL_law 415 = .ok (.iadd, 1) := by decide +kernel
theorem dL_law_416 : decode cL_law 416 = .ok (.iaload, 1) := by decide +kernel
theorem dL_law_417 : decode cL_law 417 = .ok (.invokevirtual 40, 3) := by decide +kernel
theorem dL_law_420 : decode cL_law 420 = .ok (.aload_n 2, 1) := by decide +kernel
theorem dL_law_421 : decode cL_law 421 = .ok (.aload_n 0, 1) := by decide +kernel
theorem dL_law_422 : decode cL_law 422 = .ok (.iload_n 3, 1) := by decide +kernel
theorem dL_law_423 : decode cL_law 423 = .ok (.iconst 1, 1) := by decide +kernel
theorem dL_law_424 : decode cL_law 424 = .ok (.iadd, 1) := by decide +kernel
theorem dL_law_425 : decode cL_law 425 = .ok (.iaload, 1) := by decide +kernel
theorem dL_law_426 : decode cL_law 426 = .ok (.aload_n 0, 1) := by decide +kernel
theorem dL_law_427 : decode cL_law 427 = .ok (.iload_n 3, 1) := by decide +kernel
theorem dL_law_428 : decode cL_law 428 = .ok (.iconst 2, 1) := by decide +kernel
theorem dL_law_429 : decode cL_law 429 = .ok (.iadd, 1) := by decide +kernel
theorem dL_law_430 : decode cL_law 430 = .ok (.iaload, 1) := by decide +kernel
theorem dL_law_431 : decode cL_law 431 = .ok (.invokevirtual 43, 3) := by decide +kernel
theorem dL_law_434 : decode cL_law 434 = .ok (.if_icmp .eq 502, 3) := by decide +kernel
theorem dL_law_437 : decode cL_law 437 = .ok (.iconst 0, 1) := by decide +kernel
theorem dL_law_438 : decode cL_law 438 = .ok (.ireturn, 1) := by decide +kernel
theorem dL_law_439 : decode cL_law 439 = .ok (.aload_n 1, 1) := by decide +kernel
theorem dL_law_440 : decode cL_law 440 = .ok (.aload_n 0, 1) := by decide +kernel
theorem dL_law_441 : decode cL_law 441 = .ok (.iload_n 3, 1) := by decide +kernel
theorem dL_law_442 : decode cL_law 442 = .ok (.iconst 1, 1) := by decide +kernel
theorem dL_law_443 : decode cL_law 443 = .ok (.iadd, 1) := by decide +kernel
theorem dL_law_444 : decode cL_law 444 = .ok (.iaload, 1) := by decide +kernel
theorem dL_law_445 : decode cL_law 445 = .ok (.aload_n 0, 1) := by decide +kernel
theorem dL_law_446 : decode cL_law 446 = .ok (.iload_n 3, 1) := by decide +kernel
theorem dL_law_447 : decode cL_law 447 = .ok (.iconst 2, 1) := by decide +kernel
theorem dL_law_448 : decode cL_law 448 = .ok (.iadd, 1) := by decide +kernel
theorem dL_law_449 : decode cL_law 449 = .ok (.iaload, 1) := by decide +kernel
theorem dL_law_450 : decode cL_law 450 = .ok (.invokevirtual 44, 3) := by decide +kernel
theorem dL_law_453 : decode cL_law 453 = .ok (.aload_n 2, 1) := by decide +kernel
theorem dL_law_454 : decode cL_law 454 = .ok (.aload_n 0, 1) := by decide +kernel
theorem dL_law_455 : decode cL_law 455 = .ok (.iload_n 3, 1) := by decide +kernel
theorem dL_law_456 : decode cL_law 456 = .ok (.iconst 1, 1) := by decide +kernel
theorem dL_law_457 : decode cL_law 457 = .ok (.iadd, 1) := by decide +kernel
theorem dL_law_458 : decode cL_law 458 = .ok (.iaload, 1) := by decide +kernel
theorem dL_law_459 : decode cL_law 459 = .ok (.aload_n 0, 1) := by decide +kernel
theorem dL_law_460 : decode cL_law 460 = .ok (.iload_n 3, 1) := by decide +kernel
theorem dL_law_461 : decode cL_law 461 = .ok (.iconst 2, 1) := by decide +kernel
theorem dL_law_462 : decode cL_law 462 = .ok (.iadd, 1) := by decide +kernel
theorem dL_law_463 : decode cL_law 463 = .ok (.iaload, 1) := by decide +kernel
theorem dL_law_464 : decode cL_law 464 = .ok (.invokevirtual 47, 3) := by decide +kernel
theorem dL_law_467 : decode cL_law 467 = .ok (.if_icmp .eq 469, 3) := by decide +kernel
theorem dL_law_470 : decode cL_law 470 = .ok (.iconst 0, 1) := by decide +kernel
theorem dL_law_471 : decode cL_law 471 = .ok (.ireturn, 1) := by decide +kernel
theorem dL_law_472 : decode cL_law 472 = .ok (.aload_n 1, 1) := by decide +kernel
theorem dL_law_473 : decode cL_law 473 = .ok (.aload_n 0, 1) := by decide +kernel
theorem dL_law_474 : decode cL_law 474 = .ok (.iload_n 3, 1) := by decide +kernel
theorem dL_law_475 : decode cL_law 475 = .ok (.iconst 1, 1) := by decide +kernel
theorem dL_law_476 : decode cL_law 476 = .ok (.iadd, 1) := by decide +kernel
theorem dL_law_477 : decode cL_law 477 = .ok (.iaload, 1) := by decide +kernel
theorem dL_law_478 : decode cL_law 478 = .ok (.aload_n 0, 1) := by decide +kernel
theorem dL_law_479 : decode cL_law 479 = .ok (.iload_n 3, 1) := by decide +kernel
theorem dL_law_480 : decode cL_law 480 = .ok (.iconst 2, 1) := by decide +kernel
theorem dL_law_481 : decode cL_law 481 = .ok (.iadd, 1) := by decide +kernel
theorem dL_law_482 : decode cL_law 482 = .ok (.iaload, 1) := by decide +kernel
theorem dL_law_483 : decode cL_law 483 = .ok (.invokevirtual 48, 3) := by decide +kernel
theorem dL_law_486 : decode cL_law 486 = .ok (.aload_n 2, 1) := by decide +kernel
theorem dL_law_487 : decode cL_law 487 = .ok (.aload_n 0, 1) := by decide +kernel
theorem dL_law_488 : decode cL_law 488 = .ok (.iload_n 3, 1) := by decide +kernel
theorem dL_law_489 : decode cL_law 489 = .ok (.iconst 1, 1) := by decide +kernel
theorem dL_law_490 : decode cL_law 490 = .ok (.iadd, 1) := by decide +kernel
theorem dL_law_491 : decode cL_law 491 = .ok (.iaload, 1) := by decide +kernel
theorem dL_law_492 : decode cL_law 492 = .ok (.aload_n 0, 1) := by decide +kernel
theorem dL_law_493 : decode cL_law 493 = .ok (.iload_n 3, 1) := by decide +kernel
theorem dL_law_494 : decode cL_law 494 = .ok (.iconst 2, 1) := by decide +kernel
theorem dL_law_495 : decode cL_law 495 = .ok (.iadd, 1) := by decide +kernel
theorem dL_law_496 : decode cL_law 496 = .ok (.iaload, 1) := by decide +kernel
theorem dL_law_497 : decode cL_law 497 = .ok (.invokevirtual 51, 3) := by decide +kernel
theorem dL_law_500 : decode cL_law 500 = .ok (.if_icmp .eq 436, 3) := by decide +kernel
theorem dL_law_503 : decode cL_law 503 = .ok (.iconst 0, 1) := by decide +kernel
theorem dL_law_504 : decode cL_law 504 = .ok (.ireturn, 1) := by decide +kernel
theorem dL_law_505 : decode cL_law 505 = .ok (.aload_n 1, 1) := by decide +kernel
theorem dL_law_506 : decode cL_law 506 = .ok (.aload_n 0, 1) := by decide +kernel
theorem dL_law_507 : decode cL_law 507 = .ok (.iload_n 3, 1) := by decide +kernel
theorem dL_law_508 : decode cL_law 508 = .ok (.iconst 1, 1) := by decide +kernel
theorem dL_law_509 : decode cL_law 509 = .ok (.iadd, 1) := by decide +kernel
theorem dL_law_510 : decode cL_law 510 = .ok (.iaload, 1) := by decide +kernel
theorem dL_law_511 : decode cL_law 511 = .ok (.invokevirtual 52, 3) := by decide +kernel
theorem dL_law_514 : decode cL_law 514 = .ok (.aload_n 2, 1) := by decide +kernel
theorem dL_law_515 : decode cL_law 515 = .ok (.aload_n 0, 1) := by decide +kernel
theorem dL_law_516 : decode cL_law 516 = .ok (.iload_n 3, 1) := by decide +kernel
theorem dL_law_517 : decode cL_law 517 = .ok (.iconst 1, 1) := by decide +kernel
theorem dL_law_518 : decode cL_law 518 = .ok (.iadd, 1) := by decide +kernel
theorem dL_law_519 : decode cL_law 519 = .ok (.iaload, 1) := by decide +kernel
theorem dL_law_520 : decode cL_law 520 = .ok (.invokevirtual 56, 3) := by decide +kernel
theorem dL_law_523 : decode cL_law 523 = .ok (.if_icmp .eq 413, 3) := by decide +kernel
theorem dL_law_526 : decode cL_law 526 = .ok (.iconst 0, 1) := by decide +kernel
theorem dL_law_527 : decode cL_law 527 = .ok (.ireturn, 1) := by decide +kernel
theorem dL_law_528 : decode cL_law 528 = .ok (.aload_n 1, 1) := by decide +kernel
theorem dL_law_529 : decode cL_law 529 = .ok (.aload_n 0, 1) := by decide +kernel
theorem dL_law_530 : decode cL_law 530 = .ok (.iload_n 3, 1) := by decide +kernel
theorem dL_law_531 : decode cL_law 531 = .ok (.iconst 1, 1) := by decide +kernel
theorem dL_law_532 : decode cL_law 532 = .ok (.iadd, 1) := by decide +kernel
theorem dL_law_533 : decode cL_law 533 = .ok (.iaload, 1) := by decide +kernel
theorem dL_law_534 : decode cL_law 534 = .ok (.invokevirtual 57, 3) := by decide +kernel
theorem dL_law_537 : decode cL_law 537 = .ok (.aload_n 2, 1) := by decide +kernel
theorem dL_law_538 : decode cL_law 538 = .ok (.aload_n 0, 1) := by decide +kernel
theorem dL_law_539 : decode cL_law 539 = .ok (.iload_n 3, 1) := by decide +kernel
theorem dL_law_540 : decode cL_law 540 = .ok (.iconst 1, 1) := by decide +kernel
theorem dL_law_541 : decode cL_law 541 = .ok (.iadd, 1) := by decide +kernel
theorem dL_law_542 : decode cL_law 542 = .ok (.iaload, 1) := by decide +kernel
theorem dL_law_543 : decode cL_law 543 = .ok (.invokevirtual 60, 3) := by decide +kernel
theorem dL_law_546 : decode cL_law 546 = .ok (.if_icmp .eq 390, 3) := by decide +kernel
theorem dL_law_549 : decode cL_law 549 = .ok (.iconst 0, 1) := by decide +kernel
theorem dL_law_550 : decode cL_law 550 = .ok (.ireturn, 1) := by decide +kernel
theorem dL_law_551 : decode cL_law 551 = .ok (.aload_n 1, 1) := by decide +kernel
theorem dL_law_552 : decode cL_law 552 = .ok (.invokevirtual 61, 3) := by decide +kernel
theorem dL_law_555 : decode cL_law 555 = .ok (.aload_n 2, 1) := by decide +kernel
theorem dL_law_556 : decode cL_law 556 = .ok (.invokevirtual 65, 3) := by decide +kernel
theorem dL_law_559 : decode cL_law 559 = .ok (.if_icmp .eq 377, 3) := by decide +kernel
theorem dL_law_562 : decode cL_law 562 = .ok (.iconst 0, 1) := by decide +kernel
theorem dL_law_563 : decode cL_law 563 = .ok (.ireturn, 1) := by decide +kernel
theorem dL_law_564 : decode cL_law 564 = .ok (.aload_n 1, 1) := by decide +kernel
theorem dL_law_565 : decode cL_law 565 = .ok (.aload_n 0, 1) := by decide +kernel
theorem dL_law_566 : decode cL_law 566 = .ok (.iload_n 3, 1) := by decide +kernel
theorem dL_law_567 : decode cL_law 567 = .ok (.iconst 1, 1) := by decide +kernel
theorem dL_law_568 : decode cL_law 568 = .ok (.iadd, 1) := by decide +kernel
theorem dL_law_569 : decode cL_law 569 = .ok (.iaload, 1) := by decide +kernel
theorem dL_law_570 : decode cL_law 570 = .ok (.aload_n 0, 1) := by decide +kernel
theorem dL_law_571 : decode cL_law 571 = .ok (.iload_n 3, 1) := by decide +kernel
theorem dL_law_572 : decode cL_law 572 = .ok (.iconst 2, 1) := by decide +kernel
theorem dL_law_573 : decode cL_law 573 = .ok (.iadd, 1) := by decide +kernel
theorem dL_law_574 : decode cL_law 574 = .ok (.iaload, 1) := by decide +kernel
theorem dL_law_575 : decode cL_law 575 = .ok (.invokevirtual 66, 3) := by decide +kernel
theorem dL_law_578 : decode cL_law 578 = .ok (.aload_n 2, 1) := by decide +kernel
theorem dL_law_579 : decode cL_law 579 = .ok (.aload_n 0, 1) := by decide +kernel
theorem dL_law_580 : decode cL_law 580 = .ok (.iload_n 3, 1) := by decide +kernel
theorem dL_law_581 : decode cL_law 581 = .ok (.iconst 1, 1) := by decide +kernel
theorem dL_law_582 : decode cL_law 582 = .ok (.iadd, 1) := by decide +kernel
theorem dL_law_583 : decode cL_law 583 = .ok (.iaload, 1) := by decide +kernel
theorem dL_law_584 : decode cL_law 584 = .ok (.aload_n 0, 1) := by decide +kernel
theorem dL_law_585 : decode cL_law 585 = .ok (.iload_n 3, 1) := by decide +kernel
theorem dL_law_586 : decode cL_law 586 = .ok (.iconst 2, 1) := by decide +kernel
theorem dL_law_587 : decode cL_law 587 = .ok (.iadd, 1) := by decide +kernel
theorem dL_law_588 : decode cL_law 588 = .ok (.iaload, 1) := by decide +kernel
theorem dL_law_589 : decode cL_law 589 = .ok (.invokevirtual 69, 3) := by decide +kernel
theorem dL_law_592 : decode cL_law 592 = .ok (.if_icmp .eq 344, 3) := by decide +kernel
theorem dL_law_595 : decode cL_law 595 = .ok (.iconst 0, 1) := by decide +kernel
theorem dL_law_596 : decode cL_law 596 = .ok (.ireturn, 1) := by decide +kernel
theorem dL_law_597 : decode cL_law 597 = .ok (.aload_n 1, 1) := by decide +kernel
theorem dL_law_598 : decode cL_law 598 = .ok (.invokevirtual 70, 3) := by decide +kernel
theorem dL_law_601 : decode cL_law 601 = .ok (.aload_n 2, 1) := by decide +kernel
theorem dL_law_602 : decode cL_law 602 = .ok (.invokevirtual 73, 3) := by decide +kernel
theorem dL_law_605 : decode cL_law 605 = .ok (.if_icmp .eq 331, 3) := by decide +kernel
theorem dL_law_608 : decode cL_law 608 = .ok (.iconst 0, 1) := by decide +kernel
theorem dL_law_609 : decode cL_law 609 = .ok (.ireturn, 1) := by decide +kernel
theorem dL_law_610 : decode cL_law 610 = .ok (.aload_n 1, 1) := by decide +kernel
theorem dL_law_611 : decode cL_law 611 = .ok (.aload_n 0, 1) := by decide +kernel
theorem dL_law_612 : decode cL_law 612 = .ok (.iload_n 3, 1) := by decide +kernel
theorem dL_law_613 : decode cL_law 613 = .ok (.iconst 1, 1) := by decide +kernel
theorem dL_law_614 : decode cL_law 614 = .ok (.iadd, 1) := by decide +kernel
theorem dL_law_615 : decode cL_law 615 = .ok (.iaload, 1) := by decide +kernel
theorem dL_law_616 : decode cL_law 616 = .ok (.invokevirtual 74, 3) := by decide +kernel
theorem dL_law_619 : decode cL_law 619 = .ok (.aload_n 2, 1) := by decide +kernel
theorem dL_law_620 : decode cL_law 620 = .ok (.aload_n 0, 1) := by decide +kernel
theorem dL_law_621 : decode cL_law 621 = .ok (.iload_n 3, 1) := by decide +kernel
theorem dL_law_622 : decode cL_law 622 = .ok (.iconst 1, 1) := by decide +kernel
theorem dL_law_623 : decode cL_law 623 = .ok (.iadd, 1) := by decide +kernel
theorem dL_law_624 : decode cL_law 624 = .ok (.iaload, 1) := by decide +kernel
theorem dL_law_625 : decode cL_law 625 = .ok (.invokevirtual 77, 3) := by decide +kernel
theorem dL_law_628 : decode cL_law 628 = .ok (.if_icmp .eq 308, 3) := by decide +kernel
theorem dL_law_631 : decode cL_law 631 = .ok (.iconst 0, 1) := by decide +kernel
theorem dL_law_632 : decode cL_law 632 = .ok (.ireturn, 1) := by decide +kernel
theorem dL_law_633 : decode cL_law 633 = .ok (.aload_n 1, 1) := by decide +kernel
theorem dL_law_634 : decode cL_law 634 = .ok (.aload_n 0, 1) := by decide +kernel
theorem dL_law_635 : decode cL_law 635 = .ok (.iload_n 3, 1) := by decide +kernel
theorem dL_law_636 : decode cL_law 636 = .ok (.iconst 1, 1) := by decide +kernel
theorem dL_law_637 : decode cL_law 637 = .ok (.iadd, 1) := by decide +kernel
theorem dL_law_638 : decode cL_law 638 = .ok (.iaload, 1) := by decide +kernel
theorem dL_law_639 : decode cL_law 639 = .ok (.aload_n 0, 1) := by decide +kernel
theorem dL_law_640 : decode cL_law 640 = .ok (.iload_n 3, 1) := by decide +kernel
theorem dL_law_641 : decode cL_law 641 = .ok (.iconst 2, 1) := by decide +kernel
theorem dL_law_642 : decode cL_law 642 = .ok (.iadd, 1) := by decide +kernel
theorem dL_law_643 : decode cL_law 643 = .ok (.iaload, 1) := by decide +kernel
theorem dL_law_644 : decode cL_law 644 = .ok (.invokevirtual 78, 3) := by decide +kernel
theorem dL_law_647 : decode cL_law 647 = .ok (.aload_n 2, 1) := by decide +kernel
theorem dL_law_648 : decode cL_law 648 = .ok (.aload_n 0, 1) := by decide +kernel
theorem dL_law_649 : decode cL_law 649 = .ok (.iload_n 3, 1) := by decide +kernel
theorem dL_law_650 : decode cL_law 650 = .ok (.iconst 1, 1) := by decide +kernel
theorem dL_law_651 : decode cL_law 651 = .ok (.iadd, 1) := by decide +kernel
theorem dL_law_652 : decode cL_law 652 = .ok (.iaload, 1) := by decide +kernel
theorem dL_law_653 : decode cL_law 653 = .ok (.aload_n 0, 1) := by decide +kernel
theorem dL_law_654 : decode cL_law 654 = .ok (.iload_n 3, 1) := by decide +kernel
theorem dL_law_655 : decode cL_law 655 = .ok (.iconst 2, 1) := by decide +kernel
theorem dL_law_656 : decode cL_law 656 = .ok (.iadd, 1) := by decide +kernel
theorem dL_law_657 : decode cL_law 657 = .ok (.iaload, 1) := by decide +kernel
theorem dL_law_658 : decode cL_law 658 = .ok (.invokevirtual 81, 3) := by decide +kernel
theorem dL_law_661 : decode cL_law 661 = .ok (.if_icmp .eq 275, 3) := by decide +kernel
theorem dL_law_664 : decode cL_law 664 = .ok (.iconst 0, 1) := by decide +kernel
theorem dL_law_665 : decode cL_law 665 = .ok (.ireturn, 1) := by decide +kernel
theorem dL_law_666 : decode cL_law 666 = .ok (.aload_n 1, 1) := by decide +kernel
theorem dL_law_667 : decode cL_law 667 = .ok (.aload_n 0, 1) := by decide +kernel
theorem dL_law_668 : decode cL_law 668 = .ok (.iload_n 3, 1) := by decide +kernel
theorem dL_law_669 : decode cL_law 669 = .ok (.iconst 1, 1) := by decide +kernel
theorem dL_law_670 : decode cL_law 670 = .ok (.iadd, 1) := by decide +kernel
theorem dL_law_671 : decode cL_law 671 = .ok (.iaload, 1) := by decide +kernel
theorem dL_law_672 : decode cL_law 672 = .ok (.invokevirtual 82, 3) := by decide +kernel
theorem dL_law_675 : decode cL_law 675 = .ok (.aload_n 2, 1) := by decide +kernel
theorem dL_law_676 : decode cL_law 676 = .ok (.aload_n 0, 1) := by decide +kernel
theorem dL_law_677 : decode cL_law 677 = .ok (.iload_n 3, 1) := by decide +kernel
theorem dL_law_678 : decode cL_law 678 = .ok (.iconst 1, 1) := by decide +kernel
theorem dL_law_679 : decode cL_law 679 = .ok (.iadd, 1) := by decide +kernel
theorem dL_law_680 : decode cL_law 680 = .ok (.iaload, 1) := by decide +kernel
theorem dL_law_681 : decode cL_law 681 = .ok (.invokevirtual 85, 3) := by decide +kernel
theorem dL_law_684 : decode cL_law 684 = .ok (.if_icmp .eq 252, 3) := by decide +kernel
theorem dL_law_687 : decode cL_law 687 = .ok (.iconst 0, 1) := by decide +kernel
theorem dL_law_688 : decode cL_law 688 = .ok (.ireturn, 1) := by decide +kernel
theorem dL_law_689 : decode cL_law 689 = .ok (.aload_n 1, 1) := by decide +kernel
theorem dL_law_690 : decode cL_law 690 = .ok (.aload_n 0, 1) := by decide +kernel
theorem dL_law_691 : decode cL_law 691 = .ok (.iload_n 3, 1) := by decide +kernel
theorem dL_law_692 : decode cL_law 692 = .ok (.iconst 1, 1) := by decide +kernel
theorem dL_law_693 : decode cL_law 693 = .ok (.iadd, 1) := by decide +kernel
theorem dL_law_694 : decode cL_law 694 = .ok (.iaload, 1) := by decide +kernel
theorem dL_law_695 : decode cL_law 695 = .ok (.invokevirtual 86, 3) := by decide +kernel
theorem dL_law_698 : decode cL_law 698 = .ok (.aload_n 2, 1) := by decide +kernel
theorem dL_law_699 : decode cL_law 699 = .ok (.aload_n 0, 1) := by decide +kernel
theorem dL_law_700 : decode cL_law 700 = .ok (.iload_n 3, 1) := by decide +kernel
theorem dL_law_701 : decode cL_law 701 = .ok (.iconst 1, 1) := by decide +kernel
theorem dL_law_702 : decode cL_law 702 = .ok (.iadd, 1) := by decide +kernel
theorem dL_law_703 : decode cL_law 703 = .ok (.iaload, 1) := by decide +kernel
theorem dL_law_704 : decode cL_law 704 = .ok (.invokevirtual 89, 3) := by decide +kernel
theorem dL_law_707 : decode cL_law 707 = .ok (.if_icmp .eq 229, 3) := by decide +kernel
theorem dL_law_710 : decode cL_law 710 = .ok (.iconst 0, 1) := by decide +kernel
theorem dL_law_711 : decode cL_law 711 = .ok (.ireturn, 1) := by decide +kernel
theorem dL_law_712 : decode cL_law 712 = .ok (.aload_n 1, 1) := by decide +kernel
theorem dL_law_713 : decode cL_law 713 = .ok (.aload_n 0, 1) := by decide +kernel
theorem dL_law_714 : decode cL_law 714 = .ok (.iload_n 3, 1) := by decide +kernel
theorem dL_law_715 : decode cL_law 715 = .ok (.iconst 1, 1) := by decide +kernel
theorem dL_law_716 : decode cL_law 716 = .ok (.iadd, 1) := by decide +kernel
theorem dL_law_717 : decode cL_law 717 = .ok (.iaload, 1) := by decide +kernel
theorem dL_law_718 : decode cL_law 718 = .ok (.aload_n 0, 1) := by decide +kernel
theorem dL_law_719 : decode cL_law 719 = .ok (.iload_n 3, 1) := by decide +kernel
theorem dL_law_720 : decode cL_law 720 = .ok (.iconst 2, 1) := by decide +kernel
theorem dL_law_721 : decode cL_law 721 = .ok (.iadd, 1) := by decide +kernel
theorem dL_law_722 : decode cL_law 722 = .ok (.iaload, 1) := by decide +kernel
theorem dL_law_723 : decode cL_law 723 = .ok (.invokevirtual 90, 3) := by decide +kernel
theorem dL_law_726 : decode cL_law 726 = .ok (.aload_n 2, 1) := by decide +kernel
theorem dL_law_727 : decode cL_law 727 = .ok (.aload_n 0, 1) := by decide +kernel
theorem dL_law_728 : decode cL_law 728 = .ok (.iload_n 3, 1) := by decide +kernel
theorem dL_law_729 : decode cL_law 729 = .ok (.iconst 1, 1) := by decide +kernel
theorem dL_law_730 : decode cL_law 730 = .ok (.iadd, 1) := by decide +kernel
theorem dL_law_731 : decode cL_law 731 = .ok (.iaload, 1) := by decide +kernel
theorem dL_law_732 : decode cL_law 732 = .ok (.aload_n 0, 1) := by decide +kernel
theorem dL_law_733 : decode cL_law 733 = .ok (.iload_n 3, 1) := by decide +kernel
theorem dL_law_734 : decode cL_law 734 = .ok (.iconst 2, 1) := by decide +kernel
theorem dL_law_735 : decode cL_law 735 = .ok (.iadd, 1) := by decide +kernel
theorem dL_law_736 : decode cL_law 736 = .ok (.iaload, 1) := by decide +kernel
theorem dL_law_737 : decode cL_law 737 = .ok (.invokevirtual 93, 3) := by decide +kernel
theorem dL_law_740 : decode cL_law 740 = .ok (.if_icmp .eq 196, 3) := by decide +kernel
theorem dL_law_743 : decode cL_law 743 = .ok (.iconst 0, 1) := by decide +kernel
theorem dL_law_744 : decode cL_law 744 = .ok (.ireturn, 1) := by decide +kernel
theorem dL_law_745 : decode cL_law 745 = .ok (.aload_n 1, 1) := by decide +kernel
theorem dL_law_746 : decode cL_law 746 = .ok (.aload_n 0, 1) := by decide +kernel
theorem dL_law_747 : decode cL_law 747 = .ok (.iload_n 3, 1) := by decide +kernel
theorem dL_law_748 : decode cL_law 748 = .ok (.iconst 1, 1) := by decide +kernel
theorem dL_law_749 : decode cL_law 749 = .ok (.iadd, 1) := by decide +kernel
theorem dL_law_750 : decode cL_law 750 = .ok (.iaload, 1) := by decide +kernel
theorem dL_law_751 : decode cL_law 751 = .ok (.invokevirtual 94, 3) := by decide +kernel
theorem dL_law_754 : decode cL_law 754 = .ok (.aload_n 2, 1) := by decide +kernel
theorem dL_law_755 : decode cL_law 755 = .ok (.aload_n 0, 1) := by decide +kernel
theorem dL_law_756 : decode cL_law 756 = .ok (.iload_n 3, 1) := by decide +kernel
theorem dL_law_757 : decode cL_law 757 = .ok (.iconst 1, 1) := by decide +kernel
theorem dL_law_758 : decode cL_law 758 = .ok (.iadd, 1) := by decide +kernel
theorem dL_law_759 : decode cL_law 759 = .ok (.iaload, 1) := by decide +kernel
theorem dL_law_760 : decode cL_law 760 = .ok (.invokevirtual 97, 3) := by decide +kernel
theorem dL_law_763 : decode cL_law 763 = .ok (.if_icmp .eq 173, 3) := by decide +kernel
theorem dL_law_766 : decode cL_law 766 = .ok (.iconst 0, 1) := by decide +kernel
theorem dL_law_767 : decode cL_law 767 = .ok (.ireturn, 1) := by decide +kernel
theorem dL_law_768 : decode cL_law 768 = .ok (.aload_n 1, 1) := by decide +kernel
theorem dL_law_769 : decode cL_law 769 = .ok (.aload_n 0, 1) := by decide +kernel
theorem dL_law_770 : decode cL_law 770 = .ok (.iload_n 3, 1) := by decide +kernel
theorem dL_law_771 : decode cL_law 771 = .ok (.iconst 1, 1) := by decide +kernel
theorem dL_law_772 : decode cL_law 772 = .ok (.iadd, 1) := by decide +kernel
theorem dL_law_773 : decode cL_law 773 = .ok (.iaload, 1) := by decide +kernel
theorem dL_law_774 : decode cL_law 774 = .ok (.invokevirtual 98, 3) := by decide +kernel
theorem dL_law_777 : decode cL_law 777 = .ok (.aload_n 2, 1) := by decide +kernel
theorem dL_law_778 : decode cL_law 778 = .ok (.aload_n 0, 1) := by decide +kernel
theorem dL_law_779 : decode cL_law 779 = .ok (.iload_n 3, 1) := by decide +kernel
theorem dL_law_780 : decode cL_law 780 = .ok (.iconst 1, 1) := by decide +kernel
theorem dL_law_781 : decode cL_law 781 = .ok (.iadd, 1) := by decide +kernel
theorem dL_law_782 : decode cL_law 782 = .ok (.iaload, 1) := by decide +kernel
theorem dL_law_783 : decode cL_law 783 = .ok (.invokevirtual 101, 3) := by decide +kernel
theorem dL_law_786 : decode cL_law 786 = .ok (.if_icmp .eq 150, 3) := by decide +kernel
theorem dL_law_789 : decode cL_law 789 = .ok (.iconst 0, 1) := by decide +kernel
theorem dL_law_790 : decode cL_law 790 = .ok (.ireturn, 1) := by decide +kernel
theorem dL_law_791 : decode cL_law 791 = .ok (.aload_n 1, 1) := by decide +kernel
theorem dL_law_792 : decode cL_law 792 = .ok (.aload_n 0, 1) := by decide +kernel
theorem dL_law_793 : decode cL_law 793 = .ok (.iload_n 3, 1) := by decide +kernel
theorem dL_law_794 : decode cL_law 794 = .ok (.iconst 1, 1) := by decide +kernel
theorem dL_law_795 : decode cL_law 795 = .ok (.iadd, 1) := by decide +kernel
theorem dL_law_796 : decode cL_law 796 = .ok (.iaload, 1) := by decide +kernel
theorem dL_law_797 : decode cL_law 797 = .ok (.invokevirtual 102, 3) := by decide +kernel
theorem dL_law_800 : decode cL_law 800 = .ok (.aload_n 2, 1) := by decide +kernel
theorem dL_law_801 : decode cL_law 801 = .ok (.aload_n 0, 1) := by decide +kernel
theorem dL_law_802 : decode cL_law 802 = .ok (.iload_n 3, 1) := by decide +kernel
theorem dL_law_803 : decode cL_law 803 = .ok (.iconst 1, 1) := by decide +kernel
theorem dL_law_804 : decode cL_law 804 = .ok (.iadd, 1) := by decide +kernel
theorem dL_law_805 : decode cL_law 805 = .ok (.iaload, 1) := by decide +kernel
theorem dL_law_806 : decode cL_law 806 = .ok (.invokevirtual 105, 3) := by decide +kernel
theorem dL_law_809 : decode cL_law 809 = .ok (.if_icmp .eq 127, 3) := by decide +kernel
theorem dL_law_812 : decode cL_law 812 = .ok (.iconst 0, 1) := by decide +kernel
theorem dL_law_813 : decode cL_law 813 = .ok (.ireturn, 1) := by decide +kernel
theorem dL_law_814 : decode cL_law 814 = .ok (.aload_n 1, 1) := by decide +kernel
theorem dL_law_815 : decode cL_law 815 = .ok (.aload_n 0, 1) := by decide +kernel
theorem dL_law_816 : decode cL_law 816 = .ok (.iload_n 3, 1) := by decide +kernel
theorem dL_law_817 : decode cL_law 817 = .ok (.iconst 1, 1) := by decide +kernel
theorem dL_law_818 : decode cL_law 818 = .ok (.iadd, 1) := by decide +kernel
theorem dL_law_819 : decode cL_law 819 = .ok (.iaload, 1) := by decide +kernel
theorem dL_law_820 : decode cL_law 820 = .ok (.aload_n 0, 1) := by decide +kernel
theorem dL_law_821 : decode cL_law 821 = .ok (.iload_n 3, 1) := by decide +kernel
theorem dL_law_822 : decode cL_law 822 = .ok (.iconst 2, 1) := by decide +kernel
theorem dL_law_823 : decode cL_law 823 = .ok (.iadd, 1) := by decide +kernel
theorem dL_law_824 : decode cL_law 824 = .ok (.iaload, 1) := by decide +kernel
theorem dL_law_825 : decode cL_law 825 = .ok (.invokevirtual 106, 3) := by decide +kernel
theorem dL_law_828 : decode cL_law 828 = .ok (.aload_n 2, 1) := by decide +kernel
theorem dL_law_829 : decode cL_law 829 = .ok (.aload_n 0, 1) := by decide +kernel
theorem dL_law_830 : decode cL_law 830 = .ok (.iload_n 3, 1) := by decide +kernel
theorem dL_law_831 : decode cL_law 831 = .ok (.iconst 1, 1) := by decide +kernel
theorem dL_law_832 : decode cL_law 832 = .ok (.iadd, 1) := by decide +kernel
theorem dL_law_833 : decode cL_law 833 = .ok (.iaload, 1) := by decide +kernel
theorem dL_law_834 : decode cL_law 834 = .ok (.aload_n 0, 1) := by decide +kernel
theorem dL_law_835 : decode cL_law 835 = .ok (.iload_n 3, 1) := by decide +kernel
theorem dL_law_836 : decode cL_law 836 = .ok (.iconst 2, 1) := by decide +kernel
theorem dL_law_837 : decode cL_law 837 = .ok (.iadd, 1) := by decide +kernel
theorem dL_law_838 : decode cL_law 838 = .ok (.iaload, 1) := by decide +kernel
theorem dL_law_839 : decode cL_law 839 = .ok (.invokevirtual 109, 3) := by decide +kernel
theorem dL_law_842 : decode cL_law 842 = .ok (.if_icmp .eq 94, 3) := by decide +kernel
theorem dL_law_845 : decode cL_law 845 = .ok (.iconst 0, 1) := by decide +kernel
theorem dL_law_846 : decode cL_law 846 = .ok (.ireturn, 1) := by decide +kernel
theorem dL_law_847 : decode cL_law 847 = .ok (.aload_n 1, 1) := by decide +kernel
theorem dL_law_848 : decode cL_law 848 = .ok (.aload_n 0, 1) := by decide +kernel
theorem dL_law_849 : decode cL_law 849 = .ok (.iload_n 3, 1) := by decide +kernel
theorem dL_law_850 : decode cL_law 850 = .ok (.iconst 1, 1) := by decide +kernel
theorem dL_law_851 : decode cL_law 851 = .ok (.iadd, 1) := by decide +kernel
theorem dL_law_852 : decode cL_law 852 = .ok (.iaload, 1) := by decide +kernel
theorem dL_law_853 : decode cL_law 853 = .ok (.aload_n 0, 1) := by decide +kernel
theorem dL_law_854 : decode cL_law 854 = .ok (.iload_n 3, 1) := by decide +kernel
theorem dL_law_855 : decode cL_law 855 = .ok (.iconst 2, 1) := by decide +kernel
theorem dL_law_856 : decode cL_law 856 = .ok (.iadd, 1) := by decide +kernel
theorem dL_law_857 : decode cL_law 857 = .ok (.iaload, 1) := by decide +kernel
theorem dL_law_858 : decode cL_law 858 = .ok (.invokevirtual 110, 3) := by decide +kernel
theorem dL_law_861 : decode cL_law 861 = .ok (.aload_n 2, 1) := by decide +kernel
theorem dL_law_862 : decode cL_law 862 = .ok (.aload_n 0, 1) := by decide +kernel
theorem dL_law_863 : decode cL_law 863 = .ok (.iload_n 3, 1) := by decide +kernel
theorem dL_law_864 : decode cL_law 864 = .ok (.iconst 1, 1) := by decide +kernel
theorem dL_law_865 : decode cL_law 865 = .ok (.iadd, 1) := by decide +kernel
theorem dL_law_866 : decode cL_law 866 = .ok (.iaload, 1) := by decide +kernel
theorem dL_law_867 : decode cL_law 867 = .ok (.aload_n 0, 1) := by decide +kernel
theorem dL_law_868 : decode cL_law 868 = .ok (.iload_n 3, 1) := by decide +kernel
theorem dL_law_869 : decode cL_law 869 = .ok (.iconst 2, 1) := by decide +kernel
theorem dL_law_870 : decode cL_law 870 = .ok (.iadd, 1) := by decide +kernel
theorem dL_law_871 : decode cL_law 871 = .ok (.iaload, 1) := by decide +kernel
theorem dL_law_872 : decode cL_law 872 = .ok (.invokevirtual 113, 3) := by decide +kernel
theorem dL_law_875 : decode cL_law 875 = .ok (.if_icmp .eq 61, 3) := by decide +kernel
theorem dL_law_878 : decode cL_law 878 = .ok (.iconst 0, 1) := by decide +kernel
theorem dL_law_879 : decode cL_law 879 = .ok (.ireturn, 1) := by decide +kernel
theorem dL_law_880 : decode cL_law 880 = .ok (.aload_n 1, 1) := by decide +kernel
theorem dL_law_881 : decode cL_law 881 = .ok (.aload_n 0, 1) := by decide +kernel
theorem dL_law_882 : decode cL_law 882 = .ok (.iload_n 3, 1) := by decide +kernel
theorem dL_law_883 : decode cL_law 883 = .ok (.iconst 1, 1) := by decide +kernel
theorem dL_law_884 : decode cL_law 884 = .ok (.iadd, 1) := by decide +kernel
theorem dL_law_885 : decode cL_law 885 = .ok (.iaload, 1) := by decide +kernel
theorem dL_law_886 : decode cL_law 886 = .ok (.aload_n 0, 1) := by decide +kernel
theorem dL_law_887 : decode cL_law 887 = .ok (.iload_n 3, 1) := by decide +kernel
theorem dL_law_888 : decode cL_law 888 = .ok (.iconst 2, 1) := by decide +kernel
theorem dL_law_889 : decode cL_law 889 = .ok (.iadd, 1) := by decide +kernel
theorem dL_law_890 : decode cL_law 890 = .ok (.iaload, 1) := by decide +kernel
theorem dL_law_891 : decode cL_law 891 = .ok (.invokevirtual 114, 3) := by decide +kernel
theorem dL_law_894 : decode cL_law 894 = .ok (.aload_n 2, 1) := by decide +kernel
theorem dL_law_895 : decode cL_law 895 = .ok (.aload_n 0, 1) := by decide +kernel
theorem dL_law_896 : decode cL_law 896 = .ok (.iload_n 3, 1) := by decide +kernel
theorem dL_law_897 : decode cL_law 897 = .ok (.iconst 1, 1) := by decide +kernel
theorem dL_law_898 : decode cL_law 898 = .ok (.iadd, 1) := by decide +kernel
theorem dL_law_899 : decode cL_law 899 = .ok (.iaload, 1) := by decide +kernel
theorem dL_law_900 : decode cL_law 900 = .ok (.aload_n 0, 1) := by decide +kernel
theorem dL_law_901 : decode cL_law 901 = .ok (.iload_n 3, 1) := by decide +kernel
theorem dL_law_902 : decode cL_law 902 = .ok (.iconst 2, 1) := by decide +kernel
theorem dL_law_903 : decode cL_law 903 = .ok (.iadd, 1) := by decide +kernel
theorem dL_law_904 : decode cL_law 904 = .ok (.iaload, 1) := by decide +kernel
theorem dL_law_905 : decode cL_law 905 = .ok (.invokevirtual 117, 3) := by decide +kernel
theorem dL_law_908 : decode cL_law 908 = .ok (.if_icmp .eq 28, 3) := by decide +kernel
theorem dL_law_911 : decode cL_law 911 = .ok (.iconst 0, 1) := by decide +kernel
theorem dL_law_912 : decode cL_law 912 = .ok (.ireturn, 1) := by decide +kernel
theorem dL_law_913 : decode cL_law 913 = .ok (.aload_n 1, 1) := by decide +kernel
theorem dL_law_914 : decode cL_law 914 = .ok (.aload_n 0, 1) := by decide +kernel
theorem dL_law_915 : decode cL_law 915 = .ok (.iload_n 3, 1) := by decide +kernel
theorem dL_law_916 : decode cL_law 916 = .ok (.iconst 1, 1) := by decide +kernel
theorem dL_law_917 : decode cL_law 917 = .ok (.iadd, 1) := by decide +kernel
theorem dL_law_918 : decode cL_law 918 = .ok (.iaload, 1) := by decide +kernel
theorem dL_law_919 : decode cL_law 919 = .ok (.invokevirtual 118, 3) := by decide +kernel
theorem dL_law_922 : decode cL_law 922 = .ok (.aload_n 2, 1) := by decide +kernel
theorem dL_law_923 : decode cL_law 923 = .ok (.aload_n 0, 1) := by decide +kernel
theorem dL_law_924 : decode cL_law 924 = .ok (.iload_n 3, 1) := by decide +kernel
theorem dL_law_925 : decode cL_law 925 = .ok (.iconst 1, 1) := by decide +kernel
theorem dL_law_926 : decode cL_law 926 = .ok (.iadd, 1) := by decide +kernel
theorem dL_law_927 : decode cL_law 927 = .ok (.iaload, 1) := by decide +kernel
theorem dL_law_928 : decode cL_law 928 = .ok (.invokevirtual 121, 3) := by decide +kernel
theorem dL_law_931 : decode cL_law 931 = .ok (.if_icmp .eq 5, 3) := by decide +kernel
theorem dL_law_934 : decode cL_law 934 = .ok (.iconst 0, 1) := by decide +kernel
theorem dL_law_935 : decode cL_law 935 = .ok (.ireturn, 1) := by decide +kernel
theorem dL_law_936 : decode cL_law 936 = .ok (.iinc 3 4, 3) := by decide +kernel
theorem dL_law_939 : decode cL_law 939 = .ok (.goto (-921), 3) := by decide +kernel
theorem dL_law_942 : decode cL_law 942 = .ok (.iconst 1, 1) := by decide +kernel
theorem dL_law_943 : decode cL_law 943 = .ok (.ireturn, 1) := by decide +kernel
