set_option maxRecDepth 20000 in
theorem gL_law_X6_dependencies : GoodIn wsL_law (wsV RL 71 RX6 yX6_dependencies wsX6_dependencies) := goodIn_app (goodIn_of _ (by decide +kernel)) ggL_law_X6_dependencies
set_option maxRecDepth 20000 in
theorem ggL_law_X5_cyclicAtoms : GoodIn wsL_law wsX5_cyclicAtoms := goodIn_r _ [463, 15, 464, 465, 466, 14, 467, 468, 445, 446, 447, 448, 449, 450, 451, 105, 37, 38, 241, 2, 242, 709, 710, 711, 712, 713, 714, 730, 731, 732, 733] (by decide +kernel) (by decide +kernel)
set_option maxRecDepth 20000 in
theorem gL_law_X5_cyclicAtoms : GoodIn wsL_law (wsV RL 72 RX5 yX5_cyclicAtoms wsX5_cyclicAtoms) := goodIn_app (goodIn_of _ (by decide +kernel)) ggL_law_X5_cyclicAtoms
set_option maxRecDepth 20000 in
theorem ggL_law_X6_cyclicAtoms : GoodIn wsL_law wsX6_cyclicAtoms := goodIn_r _ [472, 456, 457, 458, 5, 459, 67, 201, 202, 203, 204, 217, 218, 219, 220, 715, 716, 717, 718, 719, 720, 721, 722, 723, 724, 725, 726, 727, 728, 729] (by decide +kernel) (by decide +kernel)
set_option maxRecDepth 20000 in
theorem gL_law_X6_cyclicAtoms : GoodIn wsL_law (wsV RL 75 RX6 yX6_cyclicAtoms wsX6_cyclicAtoms) := goodIn_app (goodIn_of _ (by decide +kernel)) ggL_law_X6_cyclicAtoms
set_option maxRecDepth 20000 in
theorem ggL_law_X5_overDeleted : GoodIn wsL_law wsX5_overDeleted := goodIn_r _ [476, 15, 164, 165, 166, 14, 167, 105, 477, 478, 479, 480, 38, 37, 399, 226, 227, 228, 229, 230, 231, 232, 233, 234, 235, 236, 237, 238, 239, 240, 241, 2, 242, 243, 244, 172, 94, 95, 96, 97, 33, 98, 99, 100, 709, 710, 711, 712, 713, 714, 730, 731, 732, 733] (by decide +kernel) (by decide +kernel)
set_option maxRecDepth 20000 in
theorem gL_law_X5_overDeleted : GoodIn wsL_law (wsV RL 76 RX5 yX5_overDeleted wsX5_overDeleted) := goodIn_app (goodIn_of _ (by decide +kernel)) ggL_law_X5_overDeleted
set_option maxRecDepth 20000 in
theorem ggL_law_X6_overDeleted : GoodIn wsL_law wsX6_overDeleted := goodIn_r _ [484, 177, 178, 179, 5, 180, 67, 137, 138, 139, 485, 486, 487, 488, 249, 250, 251, 252, 253, 254, 255, 256, 257, 258, 259, 260, 217, 218, 219, 220, 201, 202, 203, 204, 147, 148, 149, 150, 69, 715, 716, 717, 718, 719, 720, 721, 722, 723, 724, 725, 726, 727, 728, 729] (by decide +kernel) (by decide +kernel)
set_option maxRecDepth 20000 in
theorem gL_law_X6_overDeleted : GoodIn wsL_law (wsV RL 79 RX6 yX6_overDeleted wsX6_overDeleted) := goodIn_app (goodIn_of _ (by decide +kernel)) ggL_law_X6_overDeleted
set_option maxRecDepth 20000 in
theorem ggL_law_X5_lost : GoodIn wsL_law wsX5_lost := goodIn_r _ [492, 15, 164, 165, 166, 14, 167, 105, 493, 494, 495, 496, 399, 226, 227, 228, 229, 230, 231, 232, 233, 234, 235, 236, 237, 238, 239, 240, 38, 37, 241, 2, 242, 243, 244, 428, 429, 430, 431, 94, 95, 96, 97, 33, 98, 99, 100, 709, 710, 711, 712, 713, 714, 730, 731, 732, 733] (by decide +kernel) (by decide +kernel)
set_option maxRecDepth 20000 in
theorem gL_law_X5_lost : GoodIn wsL_law (wsV RL 80 RX5 yX5_lost wsX5_lost) := goodIn_app (goodIn_of _ (by decide +kernel)) ggL_law_X5_lost
set_option maxRecDepth 20000 in
theorem ggL_law_X6_lost : GoodIn wsL_law wsX6_lost := goodIn_r _ [500, 177, 178, 179, 5, 180, 67, 137, 138, 139, 501, 502, 503, 504, 249, 250, 251, 252, 253, 254, 255, 256, 257, 258, 259, 260, 217, 218, 219, 220, 201, 202, 203, 204, 147, 148, 149, 150, 69, 715, 716, 717, 718, 719, 720, 721, 722, 723, 724, 725, 726, 727, 728, 729] (by decide +kernel) (by decide +kernel)
set_option maxRecDepth 20000 in
theorem gL_law_X6_lost : GoodIn wsL_law (wsV RL 83 RX6 yX6_lost wsX6_lost) := goodIn_app (goodIn_of _ (by decide +kernel)) ggL_law_X6_lost
set_option maxRecDepth 20000 in
theorem ggL_law_X5_gained : GoodIn wsL_law wsX5_gained := goodIn_r _ [508, 15, 80, 81, 2, 82, 83, 84, 85, 86, 87, 88, 89, 90, 91, 92, 93, 94, 95, 96, 97, 33, 98, 99, 100, 509, 510, 511, 14, 512, 399, 226, 227, 228, 229, 230, 231, 232, 105, 233, 234, 235, 236, 237, 238, 239, 240, 38, 37, 241, 242, 243, 244, 709, 710, 711, 712, 713, 714, 730, 731, 732, 733] (by decide +kernel) (by decide +kernel)
set_option maxRecDepth 20000 in
theorem gL_law_X5_gained : GoodIn wsL_law (wsV RL 84 RX5 yX5_gained wsX5_gained) := goodIn_app (goodIn_of _ (by decide +kernel)) ggL_law_X5_gained
set_option maxRecDepth 20000 in
theorem ggL_law_X6_gained : GoodIn wsL_law wsX6_gained := goodIn_r _ [516, 133, 134, 5, 135, 136, 137, 138, 139, 140, 141, 142, 143, 144, 145, 146, 147, 148, 149, 150, 69, 249, 250, 251, 252, 253, 254, 255, 256, 67, 257, 258, 259, 260, 217, 218, 219, 220, 201, 202, 203, 204, 715, 716, 717, 718, 719, 720, 721, 722, 723, 724, 725, 726, 727, 728, 729] (by decide +kernel) (by decide +kernel)
set_option maxRecDepth 20000 in
theorem gL_law_X6_gained : GoodIn wsL_law (wsV RL 87 RX6 yX6_gained wsX6_gained) := goodIn_app (goodIn_of _ (by decide +kernel)) ggL_law_X6_gained
set_option maxRecDepth 20000 in
theorem ggL_law_X5_setAssumable : GoodIn wsL_law wsX5_setAssumable := goodIn_r _ [520, 23, 15, 83, 84, 2, 85, 86, 87, 88, 89, 90, 91, 92, 93, 94, 95, 96, 97, 33, 98, 99, 100, 106, 107, 108, 22, 109, 110, 56, 111, 112, 113, 114, 115, 116, 117, 14, 118, 105, 37, 38, 119, 521, 522, 523, 524, 709, 710, 711, 712, 713, 714, 738, 739, 730, 731, 732, 733] (by decide +kernel) (by decide +kernel)
set_option maxRecDepth 20000 in
theorem gL_law_X5_setAssumable : GoodIn wsL_law (wsV RL 88 RX5 yX5_setAssumable wsX5_setAssumable) := goodIn_app (goodIn_of _ (by decide +kernel)) ggL_law_X5_setAssumable
set_option maxRecDepth 20000 in
theorem ggL_law_X6_setAssumable : GoodIn wsL_law wsX6_setAssumable := goodIn_r _ [528, 143, 67, 137, 138, 5, 139, 144, 145, 146, 147, 148, 149, 150, 69, 151, 152, 153, 154, 155, 68, 715, 716, 717, 718, 719, 720, 721, 722, 723, 724, 725, 726, 727, 728, 729] (by decide +kernel) (by decide +kernel)
set_option maxRecDepth 20000 in
theorem gL_law_X6_setAssumable : GoodIn wsL_law (wsV RL 91 RX6 yX6_setAssumable wsX6_setAssumable) := goodIn_app (goodIn_of _ (by decide +kernel)) ggL_law_X6_setAssumable
set_option maxRecDepth 20000 in
theorem ggL_law_X5_explanation : GoodIn wsL_law wsX5_explanation := goodIn_r _ [532, 15, 80, 81, 2, 82, 94, 95, 96, 97, 33, 98, 99, 100, 533, 534, 535, 14, 536, 119, 537, 88, 89, 90, 91, 92, 93, 229, 230, 231, 232, 105, 233, 234, 235, 236, 237, 238, 239, 240, 38, 37, 241, 242, 243, 244, 709, 710, 711, 712, 713, 714, 730, 731, 732, 733] (by decide +kernel) (by decide +kernel)
set_option maxRecDepth 20000 in
theorem gL_law_X5_explanation : GoodIn wsL_law (wsV RL 92 RX5 yX5_explanation wsX5_explanation) := goodIn_app (goodIn_of _ (by decide +kernel)) ggL_law_X5_explanation
set_option maxRecDepth 20000 in
theorem ggL_law_X6_explanation : GoodIn wsL_law wsX6_explanation := goodIn_r _ [541, 67, 133, 134, 5, 135, 136, 137, 138, 139, 147, 148, 149, 150, 69, 144, 145, 146, 253, 254, 255, 256, 257, 258, 259, 260, 217, 218, 219, 220, 201, 202, 203, 204, 715, 716, 717, 718, 719, 720, 721, 722, 723, 724, 725, 726, 727, 728, 729] (by decide +kernel) (by decide +kernel)
set_option maxRecDepth 20000 in
theorem gL_law_X6_explanation : GoodIn wsL_law (wsV RL 95 RX6 yX6_explanation wsX6_explanation) := goodIn_app (goodIn_of _ (by decide +kernel)) ggL_law_X6_explanation
