set_option maxRecDepth 20000 in
theorem ggL_law_X7_init : GoodIn wsL_law wsX7_init := goodIn_r _ [8, 9, 10, 11, 12, 13, 14, 15, 16, 17, 18, 19, 20, 21, 22, 23, 24, 25, 26, 27, 28, 29, 30, 31, 32, 33, 34, 35, 36, 37, 38, 39, 40, 41, 42, 43, 44, 45, 46, 47, 48, 49, 50, 51, 52, 53, 54, 55, 56, 57, 58, 59, 60, 61, 62, 63, 64, 65, 66, 67, 68, 69, 70, 71, 72, 73, 74, 75, 76, 77, 78, 79, 80, 81, 82, 83, 84, 85, 643, 644, 645, 646, 603, 604, 605, 606, 607, 647, 648, 649, 650, 651, 652, 653, 654, 655, 656, 657, 658, 659, 660, 661, 662, 663, 664, 665, 666, 667, 668, 669, 670] (by decide +kernel) (by decide +kernel)
set_option maxRecDepth 20000 in
theorem gL_law_X7_init : GoodIn wsL_law (wsX7_init) := ggL_law_X7_init
set_option maxRecDepth 20000 in
theorem ggL_law_X8_init : GoodIn wsL_law wsX8_init := goodIn_r _ [88, 89, 10, 11, 42, 90, 91, 37, 92, 93, 94, 95, 96, 97, 98, 99, 100, 101, 102, 103, 104, 105, 106, 107, 108, 109, 110, 111, 112, 113, 114, 608, 609, 610, 611, 612, 613, 614, 615, 616, 617, 618, 619, 620, 621, 622, 623, 624, 625, 626, 627, 628, 629, 630, 631, 632, 633, 634, 635, 636, 637, 638, 639, 640, 641, 642] (by decide +kernel) (by decide +kernel)
set_option maxRecDepth 20000 in
theorem gL_law_X8_init : GoodIn wsL_law (wsX8_init) := ggL_law_X8_init
set_option maxRecDepth 20000 in
theorem ggL_law_X7_begin : GoodIn wsL_law wsX7_begin := goodIn_r _ [118, 19, 119, 120, 121, 18, 122, 43, 603, 604, 605, 606, 607, 647, 648, 649, 650, 651, 652] (by decide +kernel) (by decide +kernel)
set_option maxRecDepth 20000 in
theorem gL_law_X7_begin : GoodIn wsL_law (wsV RL 13 RX7 yX7_begin wsX7_begin) := goodIn_app (goodIn_of _ (by decide +kernel)) ggL_law_X7_begin
set_option maxRecDepth 20000 in
theorem ggL_law_X8_begin : GoodIn wsL_law wsX8_begin := goodIn_r _ [126, 90, 127, 128, 129, 5, 130, 91, 608, 609, 610, 611, 612, 613, 614, 615, 616, 617, 618, 619, 620, 621, 622, 623, 624, 625, 626, 627, 628, 629, 630, 631, 632, 633, 634, 635, 636, 637, 638, 639, 640, 641, 642] (by decide +kernel) (by decide +kernel)
set_option maxRecDepth 20000 in
theorem gL_law_X8_begin : GoodIn wsL_law (wsV RL 17 RX8 yX8_begin wsX8_begin) := goodIn_app (goodIn_of _ (by decide +kernel)) ggL_law_X8_begin
set_option maxRecDepth 20000 in
theorem ggL_law_X7_write : GoodIn wsL_law wsX7_write := goodIn_r _ [134, 19, 135, 136, 137, 18, 138, 43, 139, 140, 2, 141, 142, 143, 144, 145, 40, 41, 603, 604, 605, 606, 607, 647, 648, 649, 650, 651, 652] (by decide +kernel) (by decide +kernel)
set_option maxRecDepth 20000 in
theorem gL_law_X7_write : GoodIn wsL_law (wsV RL 18 RX7 yX7_write wsX7_write) := goodIn_app (goodIn_of _ (by decide +kernel)) ggL_law_X7_write
set_option maxRecDepth 20000 in
theorem ggL_law_X8_write : GoodIn wsL_law wsX8_write := goodIn_r _ [149, 91, 92, 150, 151, 152, 5, 153, 90, 154, 155, 156, 157, 158, 159, 160, 161, 162, 163, 164, 165, 166, 167, 168, 114, 95, 608, 609, 610, 611, 612, 613, 614, 615, 616, 617, 618, 619, 620, 621, 622, 623, 624, 625, 626, 627, 628, 629, 630, 631, 632, 633, 634, 635, 636, 637, 638, 639, 640, 641, 642] (by decide +kernel) (by decide +kernel)
set_option maxRecDepth 20000 in
theorem gL_law_X8_write : GoodIn wsL_law (wsV RL 22 RX8 yX8_write wsX8_write) := goodIn_app (goodIn_of _ (by decide +kernel)) ggL_law_X8_write
set_option maxRecDepth 20000 in
theorem ggL_law_X7_read : GoodIn wsL_law wsX7_read := goodIn_r _ [172, 19, 135, 136, 137, 18, 138, 43, 139, 140, 2, 141, 173, 174, 175, 176, 40, 41, 38, 603, 604, 605, 606, 607, 647, 648, 649, 650, 651, 652] (by decide +kernel) (by decide +kernel)
set_option maxRecDepth 20000 in
theorem gL_law_X7_read : GoodIn wsL_law (wsV RL 23 RX7 yX7_read wsX7_read) := goodIn_app (goodIn_of _ (by decide +kernel)) ggL_law_X7_read
set_option maxRecDepth 20000 in
theorem ggL_law_X8_read : GoodIn wsL_law wsX8_read := goodIn_r _ [180, 91, 92, 93, 150, 151, 152, 5, 153, 90, 154, 155, 156, 157, 158, 159, 608, 609, 610, 611, 612, 613, 614, 615, 616, 617, 618, 619, 620, 621, 622, 623, 624, 625, 626, 627, 628, 629, 630, 631, 632, 633, 634, 635, 636, 637, 638, 639, 640, 641, 642] (by decide +kernel) (by decide +kernel)
set_option maxRecDepth 20000 in
theorem gL_law_X8_read : GoodIn wsL_law (wsV RL 27 RX8 yX8_read wsX8_read) := goodIn_app (goodIn_of _ (by decide +kernel)) ggL_law_X8_read
set_option maxRecDepth 20000 in
theorem ggL_law_X7_commit : GoodIn wsL_law wsX7_commit := goodIn_r _ [184, 19, 15, 135, 136, 137, 18, 138, 43, 185, 186, 187, 188, 40, 189, 190, 191, 14, 192, 193, 194, 195, 196, 197, 44, 41, 39, 198, 199, 200, 201, 32, 31, 202, 203, 204, 205, 206, 207, 10, 11, 208, 209, 210, 211, 212, 213, 214, 215, 216, 603, 604, 605, 606, 607, 647, 648, 649, 650, 651, 652, 643, 644, 645, 646, 671, 672, 673, 674, 675] (by decide +kernel) (by decide +kernel)
set_option maxRecDepth 20000 in
theorem gL_law_X7_commit : GoodIn wsL_law (wsV RL 28 RX7 yX7_commit wsX7_commit) := goodIn_app (goodIn_of _ (by decide +kernel)) ggL_law_X7_commit
set_option maxRecDepth 20000 in
theorem ggL_law_X8_commit : GoodIn wsL_law wsX8_commit := goodIn_r _ [220, 114, 91, 95, 96, 92, 97, 94, 98, 106, 109, 90, 150, 151, 152, 5, 153, 154, 155, 156, 221, 222, 223, 224, 127, 128, 129, 130, 608, 609, 610, 611, 612, 613, 614, 615, 616, 617, 618, 619, 620, 621, 622, 623, 624, 625, 626, 627, 628, 629, 630, 631, 632, 633, 634, 635, 636, 637, 638, 639, 640, 641, 642] (by decide +kernel) (by decide +kernel)
set_option maxRecDepth 20000 in
theorem gL_law_X8_commit : GoodIn wsL_law (wsV RL 32 RX8 yX8_commit wsX8_commit) := goodIn_app (goodIn_of _ (by decide +kernel)) ggL_law_X8_commit
set_option maxRecDepth 20000 in
theorem ggL_law_X7_abort : GoodIn wsL_law wsX7_abort := goodIn_r _ [228, 19, 135, 136, 137, 18, 138, 43, 185, 186, 187, 188, 40, 229, 230, 231, 232, 213, 214, 215, 216, 603, 604, 605, 606, 607, 647, 648, 649, 650, 651, 652] (by decide +kernel) (by decide +kernel)
set_option maxRecDepth 20000 in
theorem gL_law_X7_abort : GoodIn wsL_law (wsV RL 33 RX7 yX7_abort wsX7_abort) := goodIn_app (goodIn_of _ (by decide +kernel)) ggL_law_X7_abort
set_option maxRecDepth 20000 in
theorem ggL_law_X8_abort : GoodIn wsL_law wsX8_abort := goodIn_r _ [236, 90, 150, 151, 152, 5, 153, 154, 155, 156, 221, 222, 223, 224, 91, 127, 128, 129, 130, 608, 609, 610, 611, 612, 613, 614, 615, 616, 617, 618, 619, 620, 621, 622, 623, 624, 625, 626, 627, 628, 629, 630, 631, 632, 633, 634, 635, 636, 637, 638, 639, 640, 641, 642] (by decide +kernel) (by decide +kernel)
set_option maxRecDepth 20000 in
theorem gL_law_X8_abort : GoodIn wsL_law (wsV RL 36 RX8 yX8_abort wsX8_abort) := goodIn_app (goodIn_of _ (by decide +kernel)) ggL_law_X8_abort
set_option maxRecDepth 20000 in
theorem ggL_law_X7_flush : GoodIn wsL_law wsX7_flush := goodIn_r _ [240, 19, 241, 242, 243, 18, 244, 44, 38, 245, 246, 39, 247, 40, 248, 249, 250, 14, 251, 193, 32, 603, 604, 605, 606, 607, 647, 648, 649, 650, 651, 652, 643, 644, 645, 646, 671, 672, 673, 674, 675] (by decide +kernel) (by decide +kernel)
set_option maxRecDepth 20000 in
theorem gL_law_X7_flush : GoodIn wsL_law (wsV RL 37 RX7 yX7_flush wsX7_flush) := goodIn_app (goodIn_of _ (by decide +kernel)) ggL_law_X7_flush
set_option maxRecDepth 20000 in
theorem ggL_law_X8_flush : GoodIn wsL_law wsX8_flush := goodIn_r _ [255, 114, 168, 93, 95, 96, 94, 608, 609, 610, 611, 612, 613, 614, 615, 616, 617, 618, 619, 620, 621, 622, 623, 624, 625, 626, 627, 628, 629, 630, 631, 632, 633, 634, 635, 636, 637, 638, 639, 640, 641, 642] (by decide +kernel) (by decide +kernel)
set_option maxRecDepth 20000 in
theorem gL_law_X8_flush : GoodIn wsL_law (wsV RL 40 RX8 yX8_flush wsX8_flush) := goodIn_app (goodIn_of _ (by decide +kernel)) ggL_law_X8_flush
set_option maxRecDepth 20000 in
theorem ggL_law_X7_crash : GoodIn wsL_law wsX7_crash := goodIn_r _ [259, 260, 19, 23, 27, 261, 262, 263, 18, 264, 43, 40, 44, 45, 46, 47, 48, 265, 266, 267, 14, 268, 193, 269, 270, 271, 272, 22, 273, 274, 275, 276, 277, 278, 26, 279, 78, 75, 76, 280, 281, 282, 57, 283, 284, 285, 286, 287, 74, 288, 84, 83, 289, 603, 604, 605, 606, 607, 647, 648, 649, 650, 651, 652, 643, 644, 645, 646, 653, 654, 655, 656, 657, 658, 659, 660, 661, 662, 663, 664, 665, 666, 667, 668, 669, 670] (by decide +kernel) (by decide +kernel)
set_option maxRecDepth 20000 in
theorem gL_law_X7_crash : GoodIn wsL_law (wsV RL 41 RX7 yX7_crash wsX7_crash) := goodIn_app (goodIn_of _ (by decide +kernel)) ggL_law_X7_crash
set_option maxRecDepth 20000 in
theorem ggL_law_X8_crash : GoodIn wsL_law wsX8_crash := goodIn_r _ [293, 294, 295, 296, 154, 155, 5, 156, 297, 298, 299, 300, 114, 168, 90, 127, 128, 129, 130, 91, 301, 302, 303, 304, 105, 108, 104, 107, 106, 109, 305, 608, 609, 610, 611, 612, 613, 614, 615, 616, 617, 618, 619, 620, 621, 622, 623, 624, 625, 626, 627, 628, 629, 630, 631, 632, 633, 634, 635, 636, 637, 638, 639, 640, 641, 642] (by decide +kernel) (by decide +kernel)
set_option maxRecDepth 20000 in
theorem gL_law_X8_crash : GoodIn wsL_law (wsV RL 44 RX8 yX8_crash wsX8_crash) := goodIn_app (goodIn_of _ (by decide +kernel)) ggL_law_X8_crash
set_option maxRecDepth 20000 in
theorem ggL_law_X7_key : GoodIn wsL_law wsX7_key := goodIn_r _ [309, 19, 27, 139, 140, 2, 141, 310, 311, 312, 18, 313, 40, 603, 604, 605, 606, 607, 647, 648, 649, 650, 651, 652, 659, 660, 661, 662, 663, 664, 665, 668, 669, 670] (by decide +kernel) (by decide +kernel)
set_option maxRecDepth 20000 in
theorem gL_law_X7_key : GoodIn wsL_law (wsV RL 45 RX7 yX7_key wsX7_key) := goodIn_app (goodIn_of _ (by decide +kernel)) ggL_law_X7_key
set_option maxRecDepth 20000 in
theorem ggL_law_X8_key : GoodIn wsL_law wsX8_key := goodIn_r _ [317, 93, 94, 104, 105, 107, 108, 157, 158, 5, 159, 154, 155, 156, 164, 165, 166, 167, 168, 114, 95, 160, 161, 162, 163, 90, 91, 608, 609, 610, 611, 612, 613, 614, 615, 616, 617, 618, 619, 620, 621, 622, 623, 624, 625, 626, 627, 628, 629, 630, 631, 632, 633, 634, 635, 636, 637, 638, 639, 640, 641, 642] (by decide +kernel) (by decide +kernel)
set_option maxRecDepth 20000 in
theorem gL_law_X8_key : GoodIn wsL_law (wsV RL 48 RX8 yX8_key wsX8_key) := goodIn_app (goodIn_of _ (by decide +kernel)) ggL_law_X8_key
set_option maxRecDepth 20000 in
theorem ggL_law_X7_log : GoodIn wsL_law wsX7_log := goodIn_r _ [321, 15, 322, 323, 324, 325, 326, 249, 250, 14, 251, 193, 32, 327, 328, 329, 330, 331, 332, 333, 334, 335, 269, 603, 604, 605, 606, 607, 671, 672, 673, 674, 675, 643, 644, 645, 646] (by decide +kernel) (by decide +kernel)
set_option maxRecDepth 20000 in
theorem gL_law_X7_log : GoodIn wsL_law (wsV RL 49 RX7 yX7_log wsX7_log) := goodIn_app (goodIn_of _ (by decide +kernel)) ggL_law_X7_log
set_option maxRecDepth 20000 in
theorem ggL_law_X8_log : GoodIn wsL_law wsX8_log := goodIn_r _ [339, 340, 114, 95, 96, 97, 168, 98, 154, 155, 5, 156, 608, 609, 610, 611, 612, 613, 614, 615, 616, 617, 618, 619, 620, 621, 622, 623, 624, 625, 626, 627, 628, 629, 630, 631, 632, 633, 634, 635, 636, 637, 638, 639, 640, 641, 642] (by decide +kernel) (by decide +kernel)
set_option maxRecDepth 20000 in
theorem gL_law_X8_log : GoodIn wsL_law (wsV RL 52 RX8 yX8_log wsX8_log) := goodIn_app (goodIn_of _ (by decide +kernel)) ggL_law_X8_log
set_option maxRecDepth 20000 in
theorem ggL_law_X7_relay : GoodIn wsL_law wsX7_relay := goodIn_r _ [344, 23, 345, 346, 347, 22, 348, 349, 350, 351, 352, 55, 274, 54, 353, 354, 355, 356, 357, 14, 358, 269, 32, 359, 360, 361, 57, 362, 284, 67, 363, 364, 365, 366, 603, 604, 605, 606, 607, 653, 654, 655, 656, 657, 658, 671, 672, 673, 674, 675, 643, 644, 645, 646, 666, 667] (by decide +kernel) (by decide +kernel)
set_option maxRecDepth 20000 in
theorem gL_law_X7_relay : GoodIn wsL_law (wsV RL 53 RX7 yX7_relay wsX7_relay) := goodIn_app (goodIn_of _ (by decide +kernel)) ggL_law_X7_relay
set_option maxRecDepth 20000 in
theorem ggL_law_X8_relay : GoodIn wsL_law wsX8_relay := goodIn_r _ [370, 154, 155, 5, 156, 371, 372, 373, 374, 295, 168, 99, 95, 100, 101, 102, 97, 103, 96, 375, 608, 609, 610, 611, 612, 613, 614, 615, 616, 617, 618, 619, 620, 621, 622, 623, 624, 625, 626, 627, 628, 629, 630, 631, 632, 633, 634, 635, 636, 637, 638, 639, 640, 641, 642] (by decide +kernel) (by decide +kernel)
set_option maxRecDepth 20000 in
theorem gL_law_X8_relay : GoodIn wsL_law (wsV RL 56 RX8 yX8_relay wsX8_relay) := goodIn_app (goodIn_of _ (by decide +kernel)) ggL_law_X8_relay
set_option maxRecDepth 20000 in
theorem ggL_law_X7_cut : GoodIn wsL_law wsX7_cut := goodIn_r _ [379, 15, 23, 380, 381, 382, 14, 383, 331, 603, 604, 605, 606, 607, 653, 654, 655, 656, 657, 658, 643, 644, 645, 646] (by decide +kernel) (by decide +kernel)
set_option maxRecDepth 20000 in
theorem gL_law_X7_cut : GoodIn wsL_law (wsV RL 57 RX7 yX7_cut wsX7_cut) := goodIn_app (goodIn_of _ (by decide +kernel)) ggL_law_X7_cut
set_option maxRecDepth 20000 in
theorem ggL_law_X8_cut : GoodIn wsL_law wsX8_cut := goodIn_r _ [387, 296, 340, 608, 609, 610, 611, 612, 613, 614, 615, 616, 617, 618, 619, 620, 621, 622, 623, 624, 625, 626, 627, 628, 629, 630, 631, 632, 633, 634, 635, 636, 637, 638, 639, 640, 641, 642] (by decide +kernel) (by decide +kernel)
set_option maxRecDepth 20000 in
theorem gL_law_X8_cut : GoodIn wsL_law (wsV RL 60 RX8 yX8_cut wsX8_cut) := goodIn_app (goodIn_of _ (by decide +kernel)) ggL_law_X8_cut
set_option maxRecDepth 20000 in
theorem ggL_law_X7_deliver : GoodIn wsL_law wsX7_deliver := goodIn_r _ [391, 23, 27, 392, 393, 394, 22, 395, 54, 396, 2, 397, 398, 399, 400, 57, 401, 284, 67, 402, 403, 404, 405, 406, 407, 408, 409, 410, 411, 412, 26, 413, 75, 78, 414, 415, 416, 417, 418, 419, 420, 74, 421, 422, 84, 423, 424, 425, 426, 427, 428, 429, 430, 431, 432, 433, 79, 434, 435, 436, 437, 438, 83, 439, 289, 440, 356, 357, 14, 358, 269, 32, 441, 442, 443, 444, 445, 446, 447, 448, 360, 361, 362, 449, 364, 365, 366, 603, 604, 605, 606, 607, 653, 654, 655, 656, 657, 658, 666, 667, 659, 660, 661, 662, 663, 664, 665, 671, 672, 673, 674, 675, 668, 669, 670, 643, 644, 645, 646] (by decide +kernel) (by decide +kernel)
set_option maxRecDepth 20000 in
theorem gL_law_X7_deliver : GoodIn wsL_law (wsV RL 61 RX7 yX7_deliver wsX7_deliver) := goodIn_app (goodIn_of _ (by decide +kernel)) ggL_law_X7_deliver
set_option maxRecDepth 20000 in
theorem ggL_law_X8_deliver : GoodIn wsL_law wsX8_deliver := goodIn_r _ [453, 454, 455, 456, 5, 457, 99, 458, 459, 460, 154, 155, 156, 461, 462, 463, 464, 101, 102, 103, 100, 465, 466, 467, 468, 469, 470, 471, 472, 105, 473, 305, 474, 110, 111, 112, 113, 475, 476, 477, 478, 479, 480, 481, 482, 104, 106, 483, 484, 485, 486, 487, 608, 609, 610, 611, 612, 613, 614, 615, 616, 617, 618, 619, 620, 621, 622, 623, 624, 625, 626, 627, 628, 629, 630, 631, 632, 633, 634, 635, 636, 637, 638, 639, 640, 641, 642] (by decide +kernel) (by decide +kernel)
set_option maxRecDepth 20000 in
theorem gL_law_X8_deliver : GoodIn wsL_law (wsV RL 65 RX8 yX8_deliver wsX8_deliver) := goodIn_app (goodIn_of _ (by decide +kernel)) ggL_law_X8_deliver
set_option maxRecDepth 20000 in
theorem ggL_law_X7_lose : GoodIn wsL_law wsX7_lose := goodIn_r _ [491, 23, 492, 392, 393, 394, 22, 395, 54, 396, 2, 397, 398, 399, 400, 57, 401, 284, 67, 402, 403, 404, 405, 406, 407, 408, 409, 603, 604, 605, 606, 607, 653, 654, 655, 656, 657, 658, 671, 672, 673, 674, 675, 666, 667] (by decide +kernel) (by decide +kernel)
set_option maxRecDepth 20000 in
theorem gL_law_X7_lose : GoodIn wsL_law (wsV RL 66 RX7 yX7_lose wsX7_lose) := goodIn_app (goodIn_of _ (by decide +kernel)) ggL_law_X7_lose
set_option maxRecDepth 20000 in
theorem ggL_law_X8_lose : GoodIn wsL_law wsX8_lose := goodIn_r _ [496, 100, 474, 454, 455, 456, 5, 457, 99, 458, 459, 460, 154, 155, 156, 465, 466, 467, 468, 101, 102, 103, 608, 609, 610, 611, 612, 613, 614, 615, 616, 617, 618, 619, 620, 621, 622, 623, 624, 625, 626, 627, 628, 629, 630, 631, 632, 633, 634, 635, 636, 637, 638, 639, 640, 641, 642] (by decide +kernel) (by decide +kernel)
set_option maxRecDepth 20000 in
theorem gL_law_X8_lose : GoodIn wsL_law (wsV RL 69 RX8 yX8_lose wsX8_lose) := goodIn_app (goodIn_of _ (by decide +kernel)) ggL_law_X8_lose
set_option maxRecDepth 20000 in
theorem ggL_law_X7_letter : GoodIn wsL_law wsX7_letter := goodIn_r _ [500, 23, 492, 322, 324, 323, 501, 396, 2, 397, 392, 393, 394, 22, 395, 54, 398, 399, 400, 57, 401, 284, 67, 603, 604, 605, 606, 607, 671, 672, 673, 674, 675, 653, 654, 655, 656, 657, 658, 666, 667] (by decide +kernel) (by decide +kernel)
set_option maxRecDepth 20000 in
theorem gL_law_X7_letter : GoodIn wsL_law (wsV RL 70 RX7 yX7_letter wsX7_letter) := goodIn_app (goodIn_of _ (by decide +kernel)) ggL_law_X7_letter
set_option maxRecDepth 20000 in
theorem ggL_law_X8_letter : GoodIn wsL_law wsX8_letter := goodIn_r _ [505, 100, 101, 102, 103, 458, 459, 5, 460, 154, 155, 156, 454, 455, 456, 457, 99, 608, 609, 610, 611, 612, 613, 614, 615, 616, 617, 618, 619, 620, 621, 622, 623, 624, 625, 626, 627, 628, 629, 630, 631, 632, 633, 634, 635, 636, 637, 638, 639, 640, 641, 642] (by decide +kernel) (by decide +kernel)
set_option maxRecDepth 20000 in
theorem gL_law_X8_letter : GoodIn wsL_law (wsV RL 73 RX8 yX8_letter wsX8_letter) := goodIn_app (goodIn_of _ (by decide +kernel)) ggL_law_X8_letter
set_option maxRecDepth 20000 in
theorem ggL_law_X7_save : GoodIn wsL_law wsX7_save := goodIn_r _ [509, 27, 510, 511, 512, 26, 513, 76, 75, 285, 286, 287, 74, 288, 84, 83, 289, 603, 604, 605, 606, 607, 659, 660, 661, 662, 663, 664, 665, 668, 669, 670] (by decide +kernel) (by decide +kernel)
set_option maxRecDepth 20000 in
theorem gL_law_X7_save : GoodIn wsL_law (wsV RL 74 RX7 yX7_save wsX7_save) := goodIn_app (goodIn_of _ (by decide +kernel)) ggL_law_X7_save
set_option maxRecDepth 20000 in
theorem ggL_law_X8_save : GoodIn wsL_law wsX8_save := goodIn_r _ [517, 518, 519, 520, 5, 521, 105, 108, 107, 104, 109, 106, 608, 609, 610, 611, 612, 613, 614, 615, 616, 617, 618, 619, 620, 621, 622, 623, 624, 625, 626, 627, 628, 629, 630, 631, 632, 633, 634, 635, 636, 637, 638, 639, 640, 641, 642] (by decide +kernel) (by decide +kernel)
set_option maxRecDepth 20000 in
theorem gL_law_X8_save : GoodIn wsL_law (wsV RL 77 RX8 yX8_save wsX8_save) := goodIn_app (goodIn_of _ (by decide +kernel)) ggL_law_X8_save
set_option maxRecDepth 20000 in
theorem ggL_law_X7_ack : GoodIn wsL_law wsX7_ack := goodIn_r _ [525, 23, 27, 526, 527, 528, 22, 529, 275, 530, 63, 64, 65, 274, 603, 604, 605, 606, 607, 659, 660, 661, 662, 663, 664, 665, 668, 669, 670, 653, 654, 655, 656, 657, 658] (by decide +kernel) (by decide +kernel)
set_option maxRecDepth 20000 in
theorem gL_law_X7_ack : GoodIn wsL_law (wsV RL 78 RX7 yX7_ack wsX7_ack) := goodIn_app (goodIn_of _ (by decide +kernel)) ggL_law_X7_ack
set_option maxRecDepth 20000 in
theorem ggL_law_X8_ack : GoodIn wsL_law wsX8_ack := goodIn_r _ [534, 535, 536, 537, 5, 538, 296, 295, 539, 540, 541, 542, 109, 608, 609, 610, 611, 612, 613, 614, 615, 616, 617, 618, 619, 620, 621, 622, 623, 624, 625, 626, 627, 628, 629, 630, 631, 632, 633, 634, 635, 636, 637, 638, 639, 640, 641, 642] (by decide +kernel) (by decide +kernel)
set_option maxRecDepth 20000 in
theorem gL_law_X8_ack : GoodIn wsL_law (wsV RL 82 RX8 yX8_ack wsX8_ack) := goodIn_app (goodIn_of _ (by decide +kernel)) ggL_law_X8_ack
set_option maxRecDepth 20000 in
theorem ggL_law_X7_flow : GoodIn wsL_law wsX7_flow := goodIn_r _ [546, 27, 23, 547, 548, 549, 2, 550, 551, 399, 400, 57, 401, 284, 67, 410, 411, 412, 26, 413, 75, 78, 414, 415, 416, 417, 418, 419, 420, 74, 421, 422, 84, 423, 424, 425, 426, 427, 428, 429, 430, 431, 432, 433, 79, 434, 435, 436, 437, 438, 83, 439, 289, 440, 356, 357, 14, 358, 269, 32, 441, 442, 443, 444, 445, 446, 447, 407, 408, 409, 448, 360, 361, 362, 449, 364, 365, 366, 552, 281, 282, 283, 510, 511, 512, 513, 76, 285, 286, 287, 288, 526, 527, 528, 22, 529, 275, 530, 63, 64, 65, 274, 345, 346, 347, 348, 349, 350, 351, 352, 55, 54, 353, 354, 355, 359, 363, 603, 604, 605, 606, 607, 659, 660, 661, 662, 663, 664, 665, 668, 669, 670, 653, 654, 655, 656, 657, 658, 666, 667, 671, 672, 673, 674, 675, 643, 644, 645, 646] (by decide +kernel) (by decide +kernel)
set_option maxRecDepth 20000 in
theorem gL_law_X7_flow : GoodIn wsL_law (wsV RL 83 RX7 yX7_flow wsX7_flow) := goodIn_app (goodIn_of _ (by decide +kernel)) ggL_law_X7_flow
set_option maxRecDepth 20000 in
theorem ggL_law_X8_flow : GoodIn wsL_law wsX8_flow := goodIn_r _ [556, 483, 99, 154, 155, 5, 156, 461, 462, 463, 464, 101, 102, 103, 100, 465, 466, 467, 468, 469, 470, 471, 472, 105, 473, 305, 474, 110, 111, 112, 113, 475, 476, 477, 478, 479, 480, 481, 482, 104, 106, 484, 485, 486, 487, 518, 519, 520, 521, 108, 107, 109, 535, 536, 537, 538, 296, 295, 539, 540, 541, 542, 371, 372, 373, 374, 168, 95, 97, 96, 375, 608, 609, 610, 611, 612, 613, 614, 615, 616, 617, 618, 619, 620, 621, 622, 623, 624, 625, 626, 627, 628, 629, 630, 631, 632, 633, 634, 635, 636, 637, 638, 639, 640, 641, 642] (by decide +kernel) (by decide +kernel)
set_option maxRecDepth 20000 in
theorem gL_law_X8_flow : GoodIn wsL_law (wsV RL 86 RX8 yX8_flow wsX8_flow) := goodIn_app (goodIn_of _ (by decide +kernel)) ggL_law_X8_flow
set_option maxRecDepth 20000 in
theorem ggL_law_X7_whole : GoodIn wsL_law wsX7_whole := goodIn_r _ [560, 27, 561, 562, 563, 26, 564, 79, 76, 565, 566, 356, 357, 14, 358, 269, 32, 418, 419, 420, 74, 421, 422, 84, 423, 603, 604, 605, 606, 607, 659, 660, 661, 662, 663, 664, 665, 671, 672, 673, 674, 675, 643, 644, 645, 646, 668, 669, 670] (by decide +kernel) (by decide +kernel)
set_option maxRecDepth 20000 in
theorem gL_law_X7_whole : GoodIn wsL_law (wsV RL 87 RX7 yX7_whole wsX7_whole) := goodIn_app (goodIn_of _ (by decide +kernel)) ggL_law_X7_whole
set_option maxRecDepth 20000 in
theorem ggL_law_X8_whole : GoodIn wsL_law wsX8_whole := goodIn_r _ [570, 168, 98, 109, 608, 609, 610, 611, 612, 613, 614, 615, 616, 617, 618, 619, 620, 621, 622, 623, 624, 625, 626, 627, 628, 629, 630, 631, 632, 633, 634, 635, 636, 637, 638, 639, 640, 641, 642] (by decide +kernel) (by decide +kernel)
set_option maxRecDepth 20000 in
theorem gL_law_X8_whole : GoodIn wsL_law (wsV RL 90 RX8 yX8_whole wsX8_whole) := goodIn_app (goodIn_of _ (by decide +kernel)) ggL_law_X8_whole
set_option maxRecDepth 20000 in
theorem ggL_law_X7_prefix : GoodIn wsL_law wsX7_prefix := goodIn_r _ [574, 27, 15, 575, 576, 577, 74, 578, 422, 84, 423, 439, 83, 440, 356, 357, 14, 358, 269, 32, 603, 604, 605, 606, 607, 659, 660, 661, 662, 663, 664, 665, 671, 672, 673, 674, 675, 668, 669, 670, 643, 644, 645, 646] (by decide +kernel) (by decide +kernel)
set_option maxRecDepth 20000 in
theorem gL_law_X7_prefix : GoodIn wsL_law (wsV RL 91 RX7 yX7_prefix wsX7_prefix) := goodIn_app (goodIn_of _ (by decide +kernel)) ggL_law_X7_prefix
set_option maxRecDepth 20000 in
theorem ggL_law_X8_prefix : GoodIn wsL_law wsX8_prefix := goodIn_r _ [582, 105, 104, 108, 107, 154, 155, 5, 156, 583, 584, 585, 586, 168, 95, 97, 96, 608, 609, 610, 611, 612, 613, 614, 615, 616, 617, 618, 619, 620, 621, 622, 623, 624, 625, 626, 627, 628, 629, 630, 631, 632, 633, 634, 635, 636, 637, 638, 639, 640, 641, 642] (by decide +kernel) (by decide +kernel)
set_option maxRecDepth 20000 in
theorem gL_law_X8_prefix : GoodIn wsL_law (wsV RL 94 RX8 yX8_prefix wsX8_prefix) := goodIn_app (goodIn_of _ (by decide +kernel)) ggL_law_X8_prefix
set_option maxRecDepth 20000 in
theorem ggL_law_X7_count : GoodIn wsL_law wsX7_count := goodIn_r _ [590, 19, 15, 23, 27, 260, 591, 592, 593, 18, 594, 43, 595, 596, 597, 22, 598, 54, 603, 604, 605, 606, 607, 643, 644, 645, 646, 653, 654, 655, 656, 657, 658, 659, 660, 661, 662, 663, 664, 665, 666, 667, 668, 669, 670, 647, 648, 649, 650, 651, 652] (by decide +kernel) (by decide +kernel)
set_option maxRecDepth 20000 in
theorem gL_law_X7_count : GoodIn wsL_law (wsV RL 95 RX7 yX7_count wsX7_count) := goodIn_app (goodIn_of _ (by decide +kernel)) ggL_law_X7_count
set_option maxRecDepth 20000 in
theorem ggL_law_X8_count : GoodIn wsL_law wsX8_count := goodIn_r _ [602, 90, 114, 168, 295, 296, 340, 99, 375, 483, 473, 305, 474, 294, 539, 540, 541, 5, 542, 109, 608, 609, 610, 611, 612, 613, 614, 615, 616, 617, 618, 619, 620, 621, 622, 623, 624, 625, 626, 627, 628, 629, 630, 631, 632, 633, 634, 635, 636, 637, 638, 639, 640, 641, 642] (by decide +kernel) (by decide +kernel)
set_option maxRecDepth 20000 in
theorem gL_law_X8_count : GoodIn wsL_law (wsV RL 98 RX8 yX8_count wsX8_count) := goodIn_app (goodIn_of _ (by decide +kernel)) ggL_law_X8_count
