set_option maxRecDepth 20000 in
theorem gL_law_X5_removeRule : GoodIn wsL_law (wsV RL 18 RX5 yX5_removeRule wsX5_removeRule) := goodIn_app (goodIn_of _ (by decide +kernel)) ggL_law_X5_removeRule
set_option maxRecDepth 20000 in
theorem ggL_law_X6_removeRule : GoodIn wsL_law wsX6_removeRule := goodIn_r _ [176, 67, 177, 178, 179, 5, 180, 137, 138, 139, 147, 148, 149, 150, 69, 151, 152, 153, 154, 155, 68, 715, 716, 717, 718, 719, 720, 721, 722, 723, 724, 725, 726, 727, 728, 729] (by decide +kernel) (by decide +kernel)
set_option maxRecDepth 20000 in
theorem gL_law_X6_removeRule : GoodIn wsL_law (wsV RL 22 RX6 yX6_removeRule wsX6_removeRule) := goodIn_app (goodIn_of _ (by decide +kernel)) ggL_law_X6_removeRule
set_option maxRecDepth 20000 in
theorem ggL_law_X5_rules : GoodIn wsL_law wsX5_rules := goodIn_r _ [184, 15, 125, 126, 127, 14, 128, 105, 709, 710, 711, 712, 713, 714, 730, 731, 732, 733] (by decide +kernel) (by decide +kernel)
set_option maxRecDepth 20000 in
theorem gL_law_X5_rules : GoodIn wsL_law (wsV RL 23 RX5 yX5_rules wsX5_rules) := goodIn_app (goodIn_of _ (by decide +kernel)) ggL_law_X5_rules
set_option maxRecDepth 20000 in
theorem ggL_law_X6_rules : GoodIn wsL_law wsX6_rules := goodIn_r _ [188, 67, 715, 716, 717, 718, 719, 720, 721, 722, 723, 724, 725, 726, 727, 728, 729] (by decide +kernel) (by decide +kernel)
set_option maxRecDepth 20000 in
theorem gL_law_X6_rules : GoodIn wsL_law (wsV RL 27 RX6 yX6_rules wsX6_rules) := goodIn_app (goodIn_of _ (by decide +kernel)) ggL_law_X6_rules
set_option maxRecDepth 20000 in
theorem ggL_law_X5_head : GoodIn wsL_law wsX5_head := goodIn_r _ [192, 15, 164, 165, 166, 14, 167, 105, 193, 194, 195, 196, 37, 172, 94, 95, 96, 2, 97, 33, 98, 99, 100, 709, 710, 711, 712, 713, 714, 730, 731, 732, 733] (by decide +kernel) (by decide +kernel)
set_option maxRecDepth 20000 in
theorem gL_law_X5_head : GoodIn wsL_law (wsV RL 28 RX5 yX5_head wsX5_head) := goodIn_app (goodIn_of _ (by decide +kernel)) ggL_law_X5_head
set_option maxRecDepth 20000 in
theorem ggL_law_X6_head : GoodIn wsL_law wsX6_head := goodIn_r _ [200, 177, 178, 179, 5, 180, 67, 137, 138, 139, 201, 202, 203, 204, 147, 148, 149, 150, 69, 715, 716, 717, 718, 719, 720, 721, 722, 723, 724, 725, 726, 727, 728, 729] (by decide +kernel) (by decide +kernel)
set_option maxRecDepth 20000 in
theorem gL_law_X6_head : GoodIn wsL_law (wsV RL 31 RX6 yX6_head wsX6_head) := goodIn_app (goodIn_of _ (by decide +kernel)) ggL_law_X6_head
set_option maxRecDepth 20000 in
theorem ggL_law_X5_body : GoodIn wsL_law wsX5_body := goodIn_r _ [208, 15, 164, 165, 166, 14, 167, 105, 209, 210, 211, 212, 38, 172, 94, 95, 96, 2, 97, 33, 98, 99, 100, 709, 710, 711, 712, 713, 714, 730, 731, 732, 733] (by decide +kernel) (by decide +kernel)
set_option maxRecDepth 20000 in
theorem gL_law_X5_body : GoodIn wsL_law (wsV RL 32 RX5 yX5_body wsX5_body) := goodIn_app (goodIn_of _ (by decide +kernel)) ggL_law_X5_body
set_option maxRecDepth 20000 in
theorem ggL_law_X6_body : GoodIn wsL_law wsX6_body := goodIn_r _ [216, 177, 178, 179, 5, 180, 67, 137, 138, 139, 217, 218, 219, 220, 147, 148, 149, 150, 69, 715, 716, 717, 718, 719, 720, 721, 722, 723, 724, 725, 726, 727, 728, 729] (by decide +kernel) (by decide +kernel)
set_option maxRecDepth 20000 in
theorem gL_law_X6_body : GoodIn wsL_law (wsV RL 35 RX6 yX6_body wsX6_body) := goodIn_app (goodIn_of _ (by decide +kernel)) ggL_law_X6_body
set_option maxRecDepth 20000 in
theorem ggL_law_X5_model : GoodIn wsL_law wsX5_model := goodIn_r _ [224, 15, 225, 226, 227, 14, 228, 229, 230, 231, 232, 105, 233, 234, 235, 236, 237, 238, 239, 240, 38, 37, 241, 2, 242, 243, 244, 709, 710, 711, 712, 713, 714, 730, 731, 732, 733] (by decide +kernel) (by decide +kernel)
set_option maxRecDepth 20000 in
theorem gL_law_X5_model : GoodIn wsL_law (wsV RL 36 RX5 yX5_model wsX5_model) := goodIn_app (goodIn_of _ (by decide +kernel)) ggL_law_X5_model
set_option maxRecDepth 20000 in
theorem ggL_law_X6_model : GoodIn wsL_law wsX6_model := goodIn_r _ [248, 249, 250, 251, 5, 252, 253, 254, 255, 256, 67, 257, 258, 259, 260, 217, 218, 219, 220, 201, 202, 203, 204, 715, 716, 717, 718, 719, 720, 721, 722, 723, 724, 725, 726, 727, 728, 729] (by decide +kernel) (by decide +kernel)
set_option maxRecDepth 20000 in
theorem gL_law_X6_model : GoodIn wsL_law (wsV RL 39 RX6 yX6_model wsX6_model) := goodIn_app (goodIn_of _ (by decide +kernel)) ggL_law_X6_model
set_option maxRecDepth 20000 in
theorem ggL_law_X5_derived : GoodIn wsL_law wsX5_derived := goodIn_r _ [264, 19, 15, 94, 95, 96, 2, 97, 33, 98, 99, 100, 265, 266, 267, 18, 268, 43, 44, 269, 270, 271, 272, 26, 273, 274, 275, 276, 277, 278, 45, 279, 126, 127, 14, 128, 105, 280, 210, 211, 212, 38, 172, 165, 166, 167, 281, 88, 89, 90, 91, 92, 93, 282, 283, 284, 285, 286, 194, 195, 196, 37, 287, 288, 289, 290, 50, 291, 292, 293, 294, 241, 242, 295, 296, 297, 298, 299, 300, 301, 302, 303, 304, 305, 306, 307, 308, 309, 310, 709, 710, 711, 712, 713, 714, 734, 735, 736, 737, 740, 741, 730, 731, 732, 733] (by decide +kernel) (by decide +kernel)
set_option maxRecDepth 20000 in
theorem gL_law_X5_derived : GoodIn wsL_law (wsV RL 40 RX5 yX5_derived wsX5_derived) := goodIn_app (goodIn_of _ (by decide +kernel)) ggL_law_X5_derived
set_option maxRecDepth 20000 in
theorem ggL_law_X6_derived : GoodIn wsL_law wsX6_derived := goodIn_r _ [314, 315, 71, 147, 148, 149, 5, 150, 69, 316, 317, 318, 319, 320, 67, 73, 217, 218, 219, 220, 144, 145, 146, 321, 322, 323, 324, 72, 201, 202, 203, 204, 715, 716, 717, 718, 719, 720, 721, 722, 723, 724, 725, 726, 727, 728, 729] (by decide +kernel) (by decide +kernel)
set_option maxRecDepth 20000 in
theorem gL_law_X6_derived : GoodIn wsL_law (wsV RL 43 RX6 yX6_derived wsX6_derived) := goodIn_app (goodIn_of _ (by decide +kernel)) ggL_law_X6_derived
set_option maxRecDepth 20000 in
theorem ggL_law_X5_fired : GoodIn wsL_law wsX5_fired := goodIn_r _ [328, 19, 15, 94, 95, 96, 2, 97, 33, 98, 99, 100, 265, 266, 267, 18, 268, 43, 44, 269, 270, 271, 272, 26, 273, 274, 275, 276, 277, 278, 45, 279, 126, 127, 14, 128, 105, 280, 210, 211, 212, 38, 172, 165, 166, 167, 281, 88, 89, 90, 91, 92, 93, 282, 283, 284, 285, 286, 194, 195, 196, 37, 287, 288, 289, 290, 50, 291, 292, 293, 294, 241, 242, 295, 296, 297, 298, 299, 300, 301, 302, 303, 304, 305, 306, 329, 330, 331, 332, 709, 710, 711, 712, 713, 714, 734, 735, 736, 737, 740, 741, 730, 731, 732, 733] (by decide +kernel) (by decide +kernel)
set_option maxRecDepth 20000 in
theorem gL_law_X5_fired : GoodIn wsL_law (wsV RL 44 RX5 yX5_fired wsX5_fired) := goodIn_app (goodIn_of _ (by decide +kernel)) ggL_law_X5_fired
