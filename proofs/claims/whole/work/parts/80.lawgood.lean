/-! the law's callees' words among its own -/
set_option maxRecDepth 20000 in
theorem ggL_law_X5_init : GoodIn wsL_law wsX5_init := goodIn_r _ [8, 9, 10, 11, 12, 13, 14, 15, 16, 17, 18, 19, 20, 21, 22, 23, 24, 25, 26, 27, 28, 29, 30, 31, 32, 33, 34, 35, 36, 37, 38, 39, 40, 41, 42, 43, 44, 45, 46, 47, 48, 49, 50, 639, 640, 641, 596, 597, 598, 599, 600, 601, 602, 603, 604, 605, 606, 642, 643, 644, 645, 646] (by decide +kernel) (by decide +kernel)
set_option maxRecDepth 20000 in
theorem gL_law_X5_init : GoodIn wsL_law (wsX5_init) := ggL_law_X5_init
set_option maxRecDepth 20000 in
theorem ggL_law_X6_init : GoodIn wsL_law wsX6_init := goodIn_r _ [53, 54, 10, 11, 18, 55, 56, 57, 58, 59, 60, 61, 62, 63, 64, 65, 66, 67, 68, 69, 70, 71, 72, 73, 74, 75, 76, 77, 78, 79, 80, 81, 82, 607, 608, 609, 610, 611, 612, 613, 614, 615, 616, 617, 618, 619, 620, 621, 622, 623, 624, 625, 626, 627, 628, 629, 630, 631, 632, 633, 634, 635, 636, 637, 638] (by decide +kernel) (by decide +kernel)
set_option maxRecDepth 20000 in
theorem gL_law_X6_init : GoodIn wsL_law (wsX6_init) := ggL_law_X6_init
set_option maxRecDepth 20000 in
theorem ggL_law_X5_feast : GoodIn wsL_law wsX5_feast := goodIn_r _ [86, 87, 19, 88, 89, 2, 90, 91, 92, 93, 94, 95, 96, 97, 596, 597, 598, 599, 600, 601, 602, 603, 604, 605, 606] (by decide +kernel) (by decide +kernel)
set_option maxRecDepth 20000 in
theorem gL_law_X5_feast : GoodIn wsL_law (wsV RL 13 RX5 yX5_feast wsX5_feast) := goodIn_app (goodIn_of _ (by decide +kernel)) ggL_law_X5_feast
set_option maxRecDepth 20000 in
theorem ggL_law_X6_feast : GoodIn wsL_law wsX6_feast := goodIn_r _ [101, 102, 55, 103, 104, 5, 105, 106, 107, 108, 109, 110, 111, 112, 607, 608, 609, 610, 611, 612, 613, 614, 615, 616, 617, 618, 619, 620, 621, 622, 623, 624, 625, 626, 627, 628, 629, 630, 631, 632, 633, 634, 635, 636, 637, 638] (by decide +kernel) (by decide +kernel)
set_option maxRecDepth 20000 in
theorem gL_law_X6_feast : GoodIn wsL_law (wsV RL 17 RX6 yX6_feast wsX6_feast) := goodIn_app (goodIn_of _ (by decide +kernel)) ggL_law_X6_feast
set_option maxRecDepth 20000 in
theorem ggL_law_X5_law : GoodIn wsL_law wsX5_law := goodIn_r _ [116, 15, 20, 21, 22, 88, 89, 2, 90, 91, 92, 93, 117, 118, 119, 120, 121, 122, 123, 124, 125, 14, 126, 127, 42, 43, 44, 45, 10, 11, 46, 47, 48, 49, 50, 128, 129, 130, 131, 132, 133, 31, 134, 135, 136, 137, 138, 139, 140, 141, 142, 143, 144, 145, 30, 146, 147, 148, 149, 150, 151, 152, 153, 154, 155, 156, 157, 158, 159, 160, 161, 162, 163, 164, 165, 166, 167, 168, 169, 170, 171, 172, 173, 174, 175, 176, 177, 178, 179, 596, 597, 598, 599, 600, 601, 602, 603, 604, 605, 606, 642, 643, 644, 645, 646, 639, 640, 641] (by decide +kernel) (by decide +kernel)
set_option maxRecDepth 20000 in
theorem gL_law_X5_law : GoodIn wsL_law (wsV RL 18 RX5 yX5_law wsX5_law) := goodIn_app (goodIn_of _ (by decide +kernel)) ggL_law_X5_law
set_option maxRecDepth 20000 in
theorem ggL_law_X6_law : GoodIn wsL_law wsX6_law := goodIn_r _ [183, 184, 56, 57, 58, 59, 60, 103, 104, 5, 105, 106, 107, 108, 607, 608, 609, 610, 611, 612, 613, 614, 615, 616, 617, 618, 619, 620, 621, 622, 623, 624, 625, 626, 627, 628, 629, 630, 631, 632, 633, 634, 635, 636, 637, 638] (by decide +kernel) (by decide +kernel)
set_option maxRecDepth 20000 in
theorem gL_law_X6_law : GoodIn wsL_law (wsV RL 22 RX6 yX6_law wsX6_law) := goodIn_app (goodIn_of _ (by decide +kernel)) ggL_law_X6_law
set_option maxRecDepth 20000 in
theorem ggL_law_X5_rule : GoodIn wsL_law wsX5_rule := goodIn_r _ [188, 24, 25, 91, 92, 2, 93, 596, 597, 598, 599, 600, 601, 602, 603, 604, 605, 606] (by decide +kernel) (by decide +kernel)
set_option maxRecDepth 20000 in
theorem gL_law_X5_rule : GoodIn wsL_law (wsV RL 23 RX5 yX5_rule wsX5_rule) := goodIn_app (goodIn_of _ (by decide +kernel)) ggL_law_X5_rule
set_option maxRecDepth 20000 in
theorem ggL_law_X6_rule : GoodIn wsL_law wsX6_rule := goodIn_r _ [192, 61, 62, 106, 107, 5, 108, 607, 608, 609, 610, 611, 612, 613, 614, 615, 616, 617, 618, 619, 620, 621, 622, 623, 624, 625, 626, 627, 628, 629, 630, 631, 632, 633, 634, 635, 636, 637, 638] (by decide +kernel) (by decide +kernel)
set_option maxRecDepth 20000 in
theorem gL_law_X6_rule : GoodIn wsL_law (wsV RL 27 RX6 yX6_rule wsX6_rule) := goodIn_app (goodIn_of _ (by decide +kernel)) ggL_law_X6_rule
set_option maxRecDepth 20000 in
theorem ggL_law_X5_objector : GoodIn wsL_law wsX5_objector := goodIn_r _ [196, 16, 197, 198, 199, 200, 201, 2, 202, 91, 92, 93, 123, 124, 125, 14, 126, 127, 203, 204, 205, 206, 10, 11, 207, 208, 209, 128, 129, 130, 131, 132, 133, 31, 134, 135, 136, 137, 138, 139, 140, 141, 142, 143, 144, 145, 30, 146, 147, 148, 149, 150, 151, 152, 153, 154, 155, 156, 157, 158, 159, 160, 161, 162, 163, 164, 165, 166, 167, 168, 169, 170, 171, 172, 173, 174, 175, 176, 177, 178, 179, 596, 597, 598, 599, 600, 601, 602, 603, 604, 605, 606, 647, 648, 649, 639, 640, 641] (by decide +kernel) (by decide +kernel)
set_option maxRecDepth 20000 in
theorem gL_law_X5_objector : GoodIn wsL_law (wsV RL 28 RX5 yX5_objector wsX5_objector) := goodIn_app (goodIn_of _ (by decide +kernel)) ggL_law_X5_objector
set_option maxRecDepth 20000 in
theorem ggL_law_X6_objector : GoodIn wsL_law wsX6_objector := goodIn_r _ [213, 214, 63, 64, 65, 215, 216, 5, 217, 106, 107, 108, 607, 608, 609, 610, 611, 612, 613, 614, 615, 616, 617, 618, 619, 620, 621, 622, 623, 624, 625, 626, 627, 628, 629, 630, 631, 632, 633, 634, 635, 636, 637, 638] (by decide +kernel) (by decide +kernel)
set_option maxRecDepth 20000 in
theorem gL_law_X6_objector : GoodIn wsL_law (wsV RL 32 RX6 yX6_objector wsX6_objector) := goodIn_app (goodIn_of _ (by decide +kernel)) ggL_law_X6_objector
set_option maxRecDepth 20000 in
theorem ggL_law_X5_ask : GoodIn wsL_law wsX5_ask := goodIn_r _ [221, 17, 222, 223, 224, 225, 200, 201, 2, 202, 91, 92, 93, 117, 118, 119, 226, 227, 228, 229, 88, 89, 90, 123, 124, 125, 14, 126, 127, 230, 231, 232, 233, 234, 235, 236, 237, 238, 239, 240, 24, 241, 242, 243, 244, 245, 246, 247, 248, 249, 250, 251, 252, 253, 254, 255, 256, 31, 257, 258, 259, 260, 261, 262, 263, 264, 265, 266, 267, 268, 269, 174, 148, 175, 270, 271, 272, 273, 274, 275, 276, 277, 278, 279, 280, 281, 282, 283, 284, 285, 286, 287, 288, 289, 290, 291, 292, 293, 294, 295, 296, 297, 298, 299, 300, 301, 16, 302, 303, 304, 25, 305, 306, 307, 308, 309, 10, 11, 310, 311, 312, 313, 13, 314, 315, 316, 317, 318, 28, 29, 30, 32, 33, 34, 35, 36, 37, 38, 39, 40, 41, 319, 320, 321, 322, 323, 324, 325, 129, 130, 131, 132, 133, 134, 135, 136, 137, 138, 139, 140, 141, 142, 143, 144, 145, 146, 147, 149, 150, 151, 152, 153, 154, 155, 156, 157, 158, 159, 160, 161, 162, 163, 164, 165, 166, 167, 168, 169, 170, 171, 172, 173, 176, 177, 178, 179, 128, 596, 597, 598, 599, 600, 601, 602, 603, 604, 605, 606, 650, 651, 652, 653, 654, 655, 656, 639, 640, 641, 657, 658, 659, 660, 647, 648, 649, 661, 662] (by decide +kernel) (by decide +kernel)
set_option maxRecDepth 20000 in
theorem gL_law_X5_ask : GoodIn wsL_law (wsV RL 33 RX5 yX5_ask wsX5_ask) := goodIn_app (goodIn_of _ (by decide +kernel)) ggL_law_X5_ask
set_option maxRecDepth 20000 in
theorem ggL_law_X6_ask : GoodIn wsL_law wsX6_ask := goodIn_r _ [329, 330, 331, 332, 66, 67, 68, 69, 74, 75, 76, 215, 216, 5, 217, 106, 107, 108, 103, 104, 105, 333, 334, 335, 336, 61, 214, 63, 64, 62, 65, 337, 338, 339, 340, 341, 342, 343, 344, 345, 346, 347, 348, 70, 71, 349, 350, 351, 352, 72, 73, 353, 354, 355, 356, 357, 358, 359, 360, 361, 362, 363, 607, 608, 609, 610, 611, 612, 613, 614, 615, 616, 617, 618, 619, 620, 621, 622, 623, 624, 625, 626, 627, 628, 629, 630, 631, 632, 633, 634, 635, 636, 637, 638] (by decide +kernel) (by decide +kernel)
set_option maxRecDepth 20000 in
theorem gL_law_X6_ask : GoodIn wsL_law (wsV RL 37 RX6 yX6_ask wsX6_ask) := goodIn_app (goodIn_of _ (by decide +kernel)) ggL_law_X6_ask
set_option maxRecDepth 20000 in
theorem ggL_law_X5_event : GoodIn wsL_law wsX5_event := goodIn_r _ [367, 368, 369, 370, 371, 372, 2, 373, 17, 238, 123, 124, 125, 14, 126, 127, 241, 242, 243, 244, 245, 246, 247, 248, 249, 250, 251, 252, 253, 254, 255, 256, 31, 88, 89, 90, 91, 92, 93, 374, 375, 376, 377, 378, 379, 225, 380, 381, 382, 383, 384, 275, 276, 277, 385, 279, 280, 386, 387, 388, 389, 390, 391, 392, 285, 269, 174, 148, 175, 393, 394, 395, 396, 10, 11, 397, 398, 399, 400, 401, 325, 129, 130, 131, 132, 133, 134, 135, 136, 137, 138, 139, 140, 141, 142, 143, 144, 145, 30, 146, 147, 149, 150, 151, 152, 153, 154, 155, 156, 157, 158, 159, 160, 161, 162, 163, 164, 165, 166, 167, 168, 169, 170, 171, 172, 173, 176, 177, 178, 179, 650, 651, 652, 653, 654, 655, 656, 596, 597, 598, 599, 600, 601, 602, 603, 604, 605, 606, 639, 640, 641, 657, 658, 659, 660] (by decide +kernel) (by decide +kernel)
set_option maxRecDepth 20000 in
theorem gL_law_X5_event : GoodIn wsL_law (wsV RL 38 RX5 yX5_event wsX5_event) := goodIn_app (goodIn_of _ (by decide +kernel)) ggL_law_X5_event
set_option maxRecDepth 20000 in
theorem ggL_law_X6_event : GoodIn wsL_law wsX6_event := goodIn_r _ [405, 69, 70, 71, 72, 73, 106, 107, 5, 108, 406, 407, 408, 409, 331, 103, 104, 105, 410, 411, 412, 413, 607, 608, 609, 610, 611, 612, 613, 614, 615, 616, 617, 618, 619, 620, 621, 622, 623, 624, 625, 626, 627, 628, 629, 630, 631, 632, 633, 634, 635, 636, 637, 638] (by decide +kernel) (by decide +kernel)
set_option maxRecDepth 20000 in
theorem gL_law_X6_event : GoodIn wsL_law (wsV RL 42 RX6 yX6_event wsX6_event) := goodIn_app (goodIn_of _ (by decide +kernel)) ggL_law_X6_event
set_option maxRecDepth 20000 in
theorem ggL_law_X5_worth : GoodIn wsL_law wsX5_worth := goodIn_r _ [417, 418, 419, 316, 317, 368, 420, 147, 148, 149, 370, 371, 372, 2, 373, 17, 238, 123, 124, 125, 14, 126, 127, 241, 242, 243, 244, 245, 246, 247, 248, 249, 250, 251, 252, 253, 254, 255, 256, 31, 88, 89, 90, 91, 92, 93, 226, 227, 228, 229, 421, 320, 321, 322, 10, 11, 323, 324, 128, 129, 130, 131, 132, 133, 134, 135, 136, 137, 138, 139, 140, 141, 142, 143, 144, 145, 30, 146, 150, 151, 152, 153, 154, 155, 156, 157, 158, 159, 160, 161, 162, 163, 164, 165, 166, 167, 168, 169, 170, 171, 172, 173, 174, 175, 176, 177, 178, 179, 650, 651, 652, 653, 654, 655, 656, 661, 662, 596, 597, 598, 599, 600, 601, 602, 603, 604, 605, 606, 639, 640, 641] (by decide +kernel) (by decide +kernel)
set_option maxRecDepth 20000 in
theorem gL_law_X5_worth : GoodIn wsL_law (wsV RL 43 RX5 yX5_worth wsX5_worth) := goodIn_app (goodIn_of _ (by decide +kernel)) ggL_law_X5_worth
set_option maxRecDepth 20000 in
theorem ggL_law_X6_worth : GoodIn wsL_law wsX6_worth := goodIn_r _ [425, 330, 74, 75, 69, 76, 406, 407, 408, 5, 409, 331, 106, 107, 108, 103, 104, 105, 607, 608, 609, 610, 611, 612, 613, 614, 615, 616, 617, 618, 619, 620, 621, 622, 623, 624, 625, 626, 627, 628, 629, 630, 631, 632, 633, 634, 635, 636, 637, 638] (by decide +kernel) (by decide +kernel)
set_option maxRecDepth 20000 in
theorem gL_law_X6_worth : GoodIn wsL_law (wsV RL 46 RX6 yX6_worth wsX6_worth) := goodIn_app (goodIn_of _ (by decide +kernel)) ggL_law_X6_worth
set_option maxRecDepth 20000 in
theorem ggL_law_X5_on : GoodIn wsL_law wsX5_on := goodIn_r _ [429, 370, 371, 372, 2, 373, 17, 238, 123, 124, 125, 14, 126, 127, 241, 242, 243, 244, 245, 246, 247, 248, 249, 250, 251, 252, 253, 254, 255, 256, 31, 88, 89, 90, 91, 92, 93, 430, 265, 266, 225, 267, 268, 269, 174, 148, 175, 270, 271, 272, 273, 274, 275, 276, 277, 278, 279, 280, 281, 282, 283, 284, 285, 286, 287, 288, 289, 290, 291, 292, 293, 294, 295, 296, 297, 431, 432, 433, 434, 435, 385, 436, 437, 438, 439, 314, 440, 441, 442, 443, 444, 445, 446, 596, 597, 598, 599, 600, 601, 602, 603, 604, 605, 606, 639, 640, 641, 650, 651, 652, 653, 654, 655, 656, 657, 658, 659, 660, 661, 662] (by decide +kernel) (by decide +kernel)
set_option maxRecDepth 20000 in
theorem gL_law_X5_on : GoodIn wsL_law (wsV RL 47 RX5 yX5_on wsX5_on) := goodIn_app (goodIn_of _ (by decide +kernel)) ggL_law_X5_on
set_option maxRecDepth 20000 in
theorem ggL_law_X6_on : GoodIn wsL_law wsX6_on := goodIn_r _ [450, 70, 71, 406, 407, 408, 5, 409, 331, 106, 107, 108, 103, 104, 105, 349, 350, 351, 352, 72, 73, 341, 342, 343, 344, 69, 330, 345, 346, 347, 348, 353, 354, 355, 356, 357, 358, 359, 360, 451, 452, 453, 454, 455, 456, 457, 458, 74, 75, 76, 607, 608, 609, 610, 611, 612, 613, 614, 615, 616, 617, 618, 619, 620, 621, 622, 623, 624, 625, 626, 627, 628, 629, 630, 631, 632, 633, 634, 635, 636, 637, 638] (by decide +kernel) (by decide +kernel)
set_option maxRecDepth 20000 in
theorem gL_law_X6_on : GoodIn wsL_law (wsV RL 50 RX6 yX6_on wsX6_on) := goodIn_app (goodIn_of _ (by decide +kernel)) ggL_law_X6_on
set_option maxRecDepth 20000 in
theorem ggL_law_X5_open : GoodIn wsL_law wsX5_open := goodIn_r _ [462, 463, 464, 370, 371, 372, 2, 373, 17, 238, 123, 124, 125, 14, 126, 127, 241, 242, 243, 244, 245, 246, 247, 248, 249, 250, 251, 252, 253, 254, 255, 256, 31, 88, 89, 90, 91, 92, 93, 465, 466, 467, 468, 469, 420, 147, 148, 149, 432, 433, 434, 225, 435, 275, 276, 277, 278, 385, 279, 280, 260, 261, 262, 263, 264, 265, 266, 267, 268, 269, 174, 175, 270, 271, 272, 273, 274, 281, 282, 283, 284, 285, 286, 287, 288, 289, 290, 291, 292, 293, 294, 295, 296, 297, 470, 471, 472, 473, 23, 15, 474, 475, 476, 477, 94, 95, 96, 97, 87, 19, 478, 479, 480, 481, 482, 650, 651, 652, 653, 654, 655, 656, 642, 643, 644, 645, 646, 596, 597, 598, 599, 600, 601, 602, 603, 604, 605, 606, 639, 640, 641, 657, 658, 659, 660] (by decide +kernel) (by decide +kernel)
set_option maxRecDepth 20000 in
theorem gL_law_X5_open : GoodIn wsL_law (wsV RL 51 RX5 yX5_open wsX5_open) := goodIn_app (goodIn_of _ (by decide +kernel)) ggL_law_X5_open
set_option maxRecDepth 20000 in
theorem ggL_law_X6_open : GoodIn wsL_law wsX6_open := goodIn_r _ [486, 406, 407, 408, 5, 409, 331, 106, 107, 108, 103, 104, 105, 487, 488, 489, 490, 68, 337, 338, 339, 340, 341, 342, 343, 344, 69, 330, 345, 346, 347, 348, 70, 71, 349, 350, 351, 352, 72, 73, 353, 354, 355, 356, 357, 358, 359, 360, 451, 452, 453, 454, 491, 492, 493, 494, 184, 57, 58, 56, 109, 110, 111, 112, 102, 55, 495, 496, 497, 498, 499, 500, 501, 502, 59, 60, 607, 608, 609, 610, 611, 612, 613, 614, 615, 616, 617, 618, 619, 620, 621, 622, 623, 624, 625, 626, 627, 628, 629, 630, 631, 632, 633, 634, 635, 636, 637, 638] (by decide +kernel) (by decide +kernel)
set_option maxRecDepth 20000 in
theorem gL_law_X6_open : GoodIn wsL_law (wsV RL 54 RX6 yX6_open wsX6_open) := goodIn_app (goodIn_of _ (by decide +kernel)) ggL_law_X6_open
set_option maxRecDepth 20000 in
theorem ggL_law_X5_minutes : GoodIn wsL_law wsX5_minutes := goodIn_r _ [506, 463, 464, 420, 147, 148, 149, 370, 371, 372, 2, 373, 17, 238, 123, 124, 125, 14, 126, 127, 241, 242, 243, 244, 245, 246, 247, 248, 249, 250, 251, 252, 253, 254, 255, 256, 31, 88, 89, 90, 91, 92, 93, 465, 466, 467, 468, 469, 432, 433, 434, 225, 435, 275, 276, 277, 278, 385, 279, 280, 260, 261, 262, 263, 264, 265, 266, 267, 268, 269, 174, 175, 270, 271, 272, 273, 274, 281, 282, 283, 284, 285, 286, 287, 288, 289, 290, 291, 292, 293, 294, 295, 296, 297, 470, 471, 472, 473, 23, 15, 474, 475, 476, 477, 94, 95, 96, 97, 87, 19, 478, 479, 480, 481, 482, 650, 651, 652, 653, 654, 655, 656, 642, 643, 644, 645, 646, 596, 597, 598, 599, 600, 601, 602, 603, 604, 605, 606, 639, 640, 641, 657, 658, 659, 660] (by decide +kernel) (by decide +kernel)
set_option maxRecDepth 20000 in
theorem gL_law_X5_minutes : GoodIn wsL_law (wsV RL 55 RX5 yX5_minutes wsX5_minutes) := goodIn_app (goodIn_of _ (by decide +kernel)) ggL_law_X5_minutes
set_option maxRecDepth 20000 in
theorem ggL_law_X6_minutes : GoodIn wsL_law wsX6_minutes := goodIn_r _ [510, 406, 407, 408, 5, 409, 331, 106, 107, 108, 103, 104, 105, 487, 488, 489, 490, 68, 337, 338, 339, 340, 341, 342, 343, 344, 69, 330, 345, 346, 347, 348, 70, 71, 349, 350, 351, 352, 72, 73, 353, 354, 355, 356, 357, 358, 359, 360, 451, 452, 453, 454, 491, 492, 493, 494, 184, 57, 58, 56, 109, 110, 111, 112, 102, 55, 495, 496, 497, 498, 499, 500, 501, 502, 59, 60, 607, 608, 609, 610, 611, 612, 613, 614, 615, 616, 617, 618, 619, 620, 621, 622, 623, 624, 625, 626, 627, 628, 629, 630, 631, 632, 633, 634, 635, 636, 637, 638] (by decide +kernel) (by decide +kernel)
set_option maxRecDepth 20000 in
theorem gL_law_X6_minutes : GoodIn wsL_law (wsV RL 58 RX6 yX6_minutes wsX6_minutes) := goodIn_app (goodIn_of _ (by decide +kernel)) ggL_law_X6_minutes
set_option maxRecDepth 20000 in
theorem ggL_law_X5_lawOn : GoodIn wsL_law wsX5_lawOn := goodIn_r _ [514, 464, 469, 117, 118, 2, 119, 91, 92, 93, 88, 89, 90, 470, 471, 472, 473, 23, 15, 474, 475, 476, 477, 94, 95, 96, 97, 87, 19, 123, 124, 125, 14, 126, 127, 241, 242, 243, 244, 245, 246, 247, 248, 249, 250, 251, 252, 253, 254, 255, 256, 31, 642, 643, 644, 645, 646, 596, 597, 598, 599, 600, 601, 602, 603, 604, 605, 606, 639, 640, 641] (by decide +kernel) (by decide +kernel)
set_option maxRecDepth 20000 in
theorem gL_law_X5_lawOn : GoodIn wsL_law (wsV RL 59 RX5 yX5_lawOn wsX5_lawOn) := goodIn_app (goodIn_of _ (by decide +kernel)) ggL_law_X5_lawOn
set_option maxRecDepth 20000 in
theorem ggL_law_X6_lawOn : GoodIn wsL_law wsX6_lawOn := goodIn_r _ [518, 59, 60, 106, 107, 5, 108, 103, 104, 105, 491, 492, 493, 494, 184, 57, 58, 56, 109, 110, 111, 112, 102, 55, 607, 608, 609, 610, 611, 612, 613, 614, 615, 616, 617, 618, 619, 620, 621, 622, 623, 624, 625, 626, 627, 628, 629, 630, 631, 632, 633, 634, 635, 636, 637, 638] (by decide +kernel) (by decide +kernel)
set_option maxRecDepth 20000 in
theorem gL_law_X6_lawOn : GoodIn wsL_law (wsV RL 62 RX6 yX6_lawOn wsX6_lawOn) := goodIn_app (goodIn_of _ (by decide +kernel)) ggL_law_X6_lawOn
set_option maxRecDepth 20000 in
theorem ggL_law_X5_owes : GoodIn wsL_law wsX5_owes := goodIn_r _ [522, 523, 524, 370, 371, 372, 2, 373, 17, 238, 123, 124, 125, 14, 126, 127, 241, 242, 243, 244, 245, 246, 247, 248, 249, 250, 251, 252, 253, 254, 255, 256, 31, 525, 295, 296, 225, 297, 270, 275, 276, 277, 278, 269, 174, 148, 175, 279, 280, 260, 261, 262, 263, 264, 265, 266, 267, 268, 271, 272, 273, 274, 281, 282, 283, 284, 285, 286, 287, 288, 289, 290, 291, 292, 293, 92, 93, 294, 436, 437, 438, 439, 314, 440, 441, 442, 443, 444, 445, 446, 526, 527, 528, 529, 530, 531, 532, 533, 596, 597, 598, 599, 600, 601, 602, 603, 604, 605, 606, 639, 640, 641, 650, 651, 652, 653, 654, 655, 656, 657, 658, 659, 660, 661, 662] (by decide +kernel) (by decide +kernel)
set_option maxRecDepth 20000 in
theorem gL_law_X5_owes : GoodIn wsL_law (wsV RL 63 RX5 yX5_owes wsX5_owes) := goodIn_app (goodIn_of _ (by decide +kernel)) ggL_law_X5_owes
set_option maxRecDepth 20000 in
theorem ggL_law_X6_owes : GoodIn wsL_law wsX6_owes := goodIn_r _ [537, 330, 538, 331, 81, 82, 539, 406, 407, 408, 5, 409, 106, 107, 108, 357, 358, 359, 360, 70, 72, 71, 455, 456, 457, 458, 74, 75, 76, 337, 338, 339, 340, 341, 342, 343, 344, 69, 345, 346, 347, 348, 349, 350, 351, 352, 73, 353, 354, 355, 356, 607, 608, 609, 610, 611, 612, 613, 614, 615, 616, 617, 618, 619, 620, 621, 622, 623, 624, 625, 626, 627, 628, 629, 630, 631, 632, 633, 634, 635, 636, 637, 638] (by decide +kernel) (by decide +kernel)
set_option maxRecDepth 20000 in
theorem gL_law_X6_owes : GoodIn wsL_law (wsV RL 66 RX6 yX6_owes wsX6_owes) := goodIn_app (goodIn_of _ (by decide +kernel)) ggL_law_X6_owes
set_option maxRecDepth 20000 in
theorem ggL_law_X5_visit : GoodIn wsL_law wsX5_visit := goodIn_r _ [543, 26, 544, 545, 88, 89, 2, 90, 91, 92, 93, 546, 547, 548, 549, 17, 238, 123, 124, 125, 14, 126, 127, 241, 242, 243, 244, 245, 246, 247, 248, 249, 250, 251, 252, 253, 254, 255, 256, 31, 260, 261, 262, 225, 263, 264, 265, 266, 267, 268, 269, 174, 148, 175, 270, 271, 272, 273, 274, 275, 276, 277, 278, 279, 280, 281, 282, 283, 284, 285, 286, 287, 288, 289, 290, 291, 292, 293, 294, 295, 296, 297, 550, 551, 552, 553, 554, 555, 556, 557, 558, 559, 560, 561, 562, 563, 596, 597, 598, 599, 600, 601, 602, 603, 604, 605, 606, 639, 640, 641, 650, 651, 652, 653, 654, 655, 656, 657, 658, 659, 660] (by decide +kernel) (by decide +kernel)
set_option maxRecDepth 20000 in
theorem gL_law_X5_visit : GoodIn wsL_law (wsV RL 67 RX5 yX5_visit wsX5_visit) := goodIn_app (goodIn_of _ (by decide +kernel)) ggL_law_X5_visit
set_option maxRecDepth 20000 in
theorem ggL_law_X6_visit : GoodIn wsL_law wsX6_visit := goodIn_r _ [567, 79, 568, 569, 331, 78, 570, 103, 104, 5, 105, 106, 107, 108, 571, 572, 573, 574, 337, 338, 339, 340, 341, 342, 343, 344, 69, 330, 345, 346, 347, 348, 70, 71, 349, 350, 351, 352, 72, 73, 353, 354, 355, 356, 357, 358, 359, 360, 575, 576, 577, 578, 607, 608, 609, 610, 611, 612, 613, 614, 615, 616, 617, 618, 619, 620, 621, 622, 623, 624, 625, 626, 627, 628, 629, 630, 631, 632, 633, 634, 635, 636, 637, 638] (by decide +kernel) (by decide +kernel)
set_option maxRecDepth 20000 in
theorem gL_law_X6_visit : GoodIn wsL_law (wsV RL 70 RX6 yX6_visit wsX6_visit) := goodIn_app (goodIn_of _ (by decide +kernel)) ggL_law_X6_visit
set_option maxRecDepth 20000 in
theorem ggL_law_X5_seed : GoodIn wsL_law wsX5_seed := goodIn_r _ [582, 545, 26, 555, 556, 557, 2, 558, 17, 238, 554, 559, 123, 124, 125, 14, 126, 127, 241, 242, 243, 244, 245, 246, 247, 248, 249, 250, 251, 252, 253, 254, 255, 256, 31, 596, 597, 598, 599, 600, 601, 602, 603, 604, 605, 606, 650, 651, 652, 653, 654, 655, 656, 639, 640, 641] (by decide +kernel) (by decide +kernel)
set_option maxRecDepth 20000 in
theorem gL_law_X5_seed : GoodIn wsL_law (wsV RL 71 RX5 yX5_seed wsX5_seed) := goodIn_app (goodIn_of _ (by decide +kernel)) ggL_law_X5_seed
set_option maxRecDepth 20000 in
theorem ggL_law_X6_seed : GoodIn wsL_law wsX6_seed := goodIn_r _ [586, 587, 79, 106, 107, 5, 108, 575, 576, 577, 578, 78, 570, 607, 608, 609, 610, 611, 612, 613, 614, 615, 616, 617, 618, 619, 620, 621, 622, 623, 624, 625, 626, 627, 628, 629, 630, 631, 632, 633, 634, 635, 636, 637, 638] (by decide +kernel) (by decide +kernel)
set_option maxRecDepth 20000 in
theorem gL_law_X6_seed : GoodIn wsL_law (wsV RL 74 RX6 yX6_seed wsX6_seed) := goodIn_app (goodIn_of _ (by decide +kernel)) ggL_law_X6_seed
set_option maxRecDepth 20000 in
theorem ggL_law_X5_count : GoodIn wsL_law wsX5_count := goodIn_r _ [591, 17, 15, 87, 16, 559, 222, 123, 124, 125, 14, 126, 127, 596, 597, 598, 599, 600, 601, 602, 603, 604, 605, 606, 639, 640, 641] (by decide +kernel) (by decide +kernel)
set_option maxRecDepth 20000 in
theorem gL_law_X5_count : GoodIn wsL_law (wsV RL 75 RX5 yX5_count wsX5_count) := goodIn_app (goodIn_of _ (by decide +kernel)) ggL_law_X5_count
set_option maxRecDepth 20000 in
theorem ggL_law_X6_count : GoodIn wsL_law wsX6_count := goodIn_r _ [595, 331, 184, 102, 214, 570, 332, 607, 608, 609, 610, 611, 612, 613, 614, 615, 616, 617, 618, 619, 620, 621, 622, 623, 624, 625, 626, 627, 628, 629, 630, 631, 632, 633, 634, 635, 636, 637, 638] (by decide +kernel) (by decide +kernel)
set_option maxRecDepth 20000 in
theorem gL_law_X6_count : GoodIn wsL_law (wsV RL 78 RX6 yX6_count wsX6_count) := goodIn_app (goodIn_of _ (by decide +kernel)) ggL_law_X6_count
