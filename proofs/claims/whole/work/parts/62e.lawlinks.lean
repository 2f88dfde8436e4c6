set_option maxRecDepth 20000 in
theorem ggL_law_X5_append : GoodIn wsL_law wsX5_append := goodIn_r _ [545, 27, 94, 95, 96, 2, 97, 33, 98, 99, 100, 546, 292, 293, 26, 294, 274, 50, 547, 288, 289, 290, 291, 548, 296, 297, 298, 709, 710, 711, 712, 713, 714, 740, 741] (by decide +kernel) (by decide +kernel)
set_option maxRecDepth 20000 in
theorem gL_law_X5_append : GoodIn wsL_law (wsV RL 96 RX5 yX5_append wsX5_append) := goodIn_app (goodIn_of _ (by decide +kernel)) ggL_law_X5_append
set_option maxRecDepth 20000 in
theorem ggL_law_X6_append : GoodIn wsL_law wsX6_append := goodIn_r _ [552, 553, 554, 70, 137, 138, 5, 139, 147, 148, 149, 150, 69, 715, 716, 717, 718, 719, 720, 721, 722, 723, 724, 725, 726, 727, 728, 729] (by decide +kernel) (by decide +kernel)
set_option maxRecDepth 20000 in
theorem gL_law_X6_append : GoodIn wsL_law (wsV RL 99 RX6 yX6_append wsX6_append) := goodIn_app (goodIn_of _ (by decide +kernel)) ggL_law_X6_append
set_option maxRecDepth 20000 in
theorem ggL_law_X5_clearText : GoodIn wsL_law wsX5_clearText := goodIn_r _ [558, 27, 548, 296, 297, 26, 298, 274, 559, 271, 272, 273, 709, 710, 711, 712, 713, 714, 740, 741] (by decide +kernel) (by decide +kernel)
set_option maxRecDepth 20000 in
theorem gL_law_X5_clearText : GoodIn wsL_law (wsV RL 100 RX5 yX5_clearText wsX5_clearText) := goodIn_app (goodIn_of _ (by decide +kernel)) ggL_law_X5_clearText
set_option maxRecDepth 20000 in
theorem ggL_law_X6_clearText : GoodIn wsL_law wsX6_clearText := goodIn_r _ [563, 554, 715, 716, 717, 718, 719, 720, 721, 722, 723, 724, 725, 726, 727, 728, 729] (by decide +kernel) (by decide +kernel)
set_option maxRecDepth 20000 in
theorem gL_law_X6_clearText : GoodIn wsL_law (wsV RL 103 RX6 yX6_clearText wsX6_clearText) := goodIn_app (goodIn_of _ (by decide +kernel)) ggL_law_X6_clearText
set_option maxRecDepth 20000 in
theorem ggL_law_X5_parse : GoodIn wsL_law wsX5_parse := goodIn_r _ [567, 31, 15, 27, 23, 568, 569, 570, 30, 571, 62, 572, 573, 116, 117, 14, 118, 105, 37, 38, 119, 574, 575, 576, 577, 578, 296, 297, 26, 298, 274, 579, 300, 301, 302, 50, 580, 581, 582, 583, 584, 102, 103, 104, 585, 586, 587, 588, 589, 590, 591, 592, 593, 594, 595, 596, 81, 2, 82, 597, 598, 599, 600, 601, 602, 603, 604, 241, 242, 605, 121, 122, 123, 124, 606, 607, 608, 609, 125, 126, 127, 128, 106, 107, 108, 22, 109, 110, 56, 111, 112, 113, 114, 115, 610, 611, 612, 613, 709, 710, 711, 712, 713, 714, 742, 743, 744, 730, 731, 732, 733, 740, 741, 738, 739] (by decide +kernel) (by decide +kernel)
set_option maxRecDepth 20000 in
theorem gL_law_X5_parse : GoodIn wsL_law (wsV RL 104 RX5 yX5_parse wsX5_parse) := goodIn_app (goodIn_of _ (by decide +kernel)) ggL_law_X5_parse
set_option maxRecDepth 20000 in
theorem ggL_law_X6_parse : GoodIn wsL_law wsX6_parse := goodIn_r _ [617, 618, 67, 619, 74, 75, 620, 621, 622, 5, 623, 554, 70, 624, 625, 626, 627, 628, 629, 630, 631, 632, 633, 137, 138, 139, 634, 635, 636, 637, 151, 152, 153, 154, 155, 68, 156, 157, 158, 159, 715, 716, 717, 718, 719, 720, 721, 722, 723, 724, 725, 726, 727, 728, 729] (by decide +kernel) (by decide +kernel)
set_option maxRecDepth 20000 in
theorem gL_law_X6_parse : GoodIn wsL_law (wsV RL 107 RX6 yX6_parse wsX6_parse) := goodIn_app (goodIn_of _ (by decide +kernel)) ggL_law_X6_parse
set_option maxRecDepth 20000 in
theorem ggL_law_X5_undo : GoodIn wsL_law wsX5_undo := goodIn_r _ [641, 23, 15, 642, 643, 644, 22, 645, 110, 94, 95, 96, 2, 97, 33, 98, 99, 100, 646, 647, 648, 649, 56, 650, 115, 116, 117, 14, 118, 105, 37, 38, 119, 651, 652, 653, 654, 709, 710, 711, 712, 713, 714, 738, 739, 730, 731, 732, 733] (by decide +kernel) (by decide +kernel)
set_option maxRecDepth 20000 in
theorem gL_law_X5_undo : GoodIn wsL_law (wsV RL 108 RX5 yX5_undo wsX5_undo) := goodIn_app (goodIn_of _ (by decide +kernel)) ggL_law_X5_undo
set_option maxRecDepth 20000 in
theorem ggL_law_X6_undo : GoodIn wsL_law wsX6_undo := goodIn_r _ [658, 155, 67, 68, 147, 148, 149, 5, 150, 69, 715, 716, 717, 718, 719, 720, 721, 722, 723, 724, 725, 726, 727, 728, 729] (by decide +kernel) (by decide +kernel)
set_option maxRecDepth 20000 in
theorem gL_law_X6_undo : GoodIn wsL_law (wsV RL 111 RX6 yX6_undo wsX6_undo) := goodIn_app (goodIn_of _ (by decide +kernel)) ggL_law_X6_undo
set_option maxRecDepth 20000 in
theorem ggL_law_X5_errorCount : GoodIn wsL_law wsX5_errorCount := goodIn_r _ [662, 33, 98, 99, 2, 100, 94, 95, 96, 97, 709, 710, 711, 712, 713, 714] (by decide +kernel) (by decide +kernel)
set_option maxRecDepth 20000 in
theorem gL_law_X5_errorCount : GoodIn wsL_law (wsV RL 112 RX5 yX5_errorCount wsX5_errorCount) := goodIn_app (goodIn_of _ (by decide +kernel)) ggL_law_X5_errorCount
set_option maxRecDepth 20000 in
theorem ggL_law_X6_errorCount : GoodIn wsL_law wsX6_errorCount := goodIn_r _ [666, 667, 668, 69, 137, 138, 5, 139, 147, 148, 149, 150, 715, 716, 717, 718, 719, 720, 721, 722, 723, 724, 725, 726, 727, 728, 729] (by decide +kernel) (by decide +kernel)
set_option maxRecDepth 20000 in
theorem gL_law_X6_errorCount : GoodIn wsL_law (wsV RL 115 RX6 yX6_errorCount wsX6_errorCount) := goodIn_app (goodIn_of _ (by decide +kernel)) ggL_law_X6_errorCount
set_option maxRecDepth 20000 in
theorem ggL_law_X5_digest : GoodIn wsL_law wsX5_digest := goodIn_r _ [672, 673, 33, 27, 15, 23, 674, 675, 2, 676, 677, 548, 296, 297, 26, 298, 274, 678, 679, 680, 14, 681, 119, 682, 683, 684, 685, 125, 126, 127, 128, 105, 193, 194, 195, 196, 37, 172, 165, 166, 167, 209, 210, 211, 212, 38, 477, 478, 479, 480, 399, 226, 227, 228, 229, 230, 231, 232, 233, 234, 235, 236, 237, 238, 239, 240, 241, 242, 243, 244, 493, 494, 495, 496, 428, 429, 430, 431, 686, 687, 688, 689, 19, 265, 266, 267, 18, 268, 43, 44, 269, 270, 271, 272, 273, 275, 276, 277, 278, 45, 279, 280, 281, 88, 89, 90, 91, 92, 93, 282, 283, 284, 285, 286, 287, 288, 289, 290, 50, 291, 292, 293, 294, 295, 299, 300, 301, 302, 303, 304, 305, 306, 225, 690, 691, 692, 693, 307, 308, 309, 310, 694, 695, 696, 697, 329, 330, 331, 332, 698, 699, 700, 701, 345, 346, 347, 348, 349, 408, 409, 410, 411, 424, 425, 426, 427, 464, 465, 466, 467, 468, 445, 446, 447, 448, 449, 450, 451, 651, 652, 653, 22, 654, 110, 709, 710, 711, 712, 713, 714, 740, 741, 730, 731, 732, 733, 734, 735, 736, 737, 738, 739] (by decide +kernel) (by decide +kernel)
set_option maxRecDepth 20000 in
theorem gL_law_X5_digest : GoodIn wsL_law (wsV RL 116 RX5 yX5_digest wsX5_digest) := goodIn_app (goodIn_of _ (by decide +kernel)) ggL_law_X5_digest
set_option maxRecDepth 20000 in
theorem ggL_law_X6_digest : GoodIn wsL_law wsX6_digest := goodIn_r _ [705, 706, 707, 69, 554, 67, 315, 71, 320, 72, 155, 201, 202, 203, 5, 204, 217, 218, 219, 220, 485, 486, 487, 488, 249, 250, 251, 252, 253, 254, 255, 256, 257, 258, 259, 260, 501, 502, 503, 504, 316, 317, 318, 319, 73, 144, 145, 146, 321, 322, 323, 324, 362, 363, 364, 365, 416, 417, 418, 419, 436, 437, 438, 439, 708, 470, 471, 472, 456, 457, 458, 459, 715, 716, 717, 718, 719, 720, 721, 722, 723, 724, 725, 726, 727, 728, 729] (by decide +kernel) (by decide +kernel)
set_option maxRecDepth 20000 in
theorem gL_law_X6_digest : GoodIn wsL_law (wsV RL 120 RX6 yX6_digest wsX6_digest) := goodIn_app (goodIn_of _ (by decide +kernel)) ggL_law_X6_digest

