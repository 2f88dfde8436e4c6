set_option maxRecDepth 20000 in
theorem ggL_law_X6_fired : GoodIn wsL_law wsX6_fired := goodIn_r _ [336, 320, 72, 147, 148, 149, 5, 150, 69, 316, 317, 318, 319, 315, 67, 73, 71, 217, 218, 219, 220, 144, 145, 146, 321, 322, 323, 324, 201, 202, 203, 204, 715, 716, 717, 718, 719, 720, 721, 722, 723, 724, 725, 726, 727, 728, 729] (by decide +kernel) (by decide +kernel)
set_option maxRecDepth 20000 in
theorem gL_law_X6_fired : GoodIn wsL_law (wsV RL 47 RX6 yX6_fired wsX6_fired) := goodIn_app (goodIn_of _ (by decide +kernel)) ggL_law_X6_fired
set_option maxRecDepth 20000 in
theorem ggL_law_X5_level : GoodIn wsL_law wsX5_level := goodIn_r _ [340, 15, 80, 81, 2, 82, 94, 95, 96, 97, 33, 98, 99, 100, 341, 342, 343, 344, 225, 226, 227, 14, 228, 229, 230, 231, 232, 105, 233, 234, 235, 236, 237, 238, 239, 240, 38, 37, 241, 242, 243, 244, 345, 346, 347, 348, 349, 709, 710, 711, 712, 713, 714, 730, 731, 732, 733] (by decide +kernel) (by decide +kernel)
set_option maxRecDepth 20000 in
theorem gL_law_X5_level : GoodIn wsL_law (wsV RL 48 RX5 yX5_level wsX5_level) := goodIn_app (goodIn_of _ (by decide +kernel)) ggL_law_X5_level
set_option maxRecDepth 20000 in
theorem ggL_law_X6_level : GoodIn wsL_law wsX6_level := goodIn_r _ [353, 354, 355, 356, 5, 357, 133, 134, 135, 136, 137, 138, 139, 147, 148, 149, 150, 69, 358, 359, 360, 361, 249, 250, 251, 252, 253, 254, 255, 256, 67, 257, 258, 259, 260, 217, 218, 219, 220, 201, 202, 203, 204, 362, 363, 364, 365, 715, 716, 717, 718, 719, 720, 721, 722, 723, 724, 725, 726, 727, 728, 729] (by decide +kernel) (by decide +kernel)
set_option maxRecDepth 20000 in
theorem gL_law_X6_level : GoodIn wsL_law (wsV RL 51 RX6 yX6_level wsX6_level) := goodIn_app (goodIn_of _ (by decide +kernel)) ggL_law_X6_level
set_option maxRecDepth 20000 in
theorem ggL_law_X5_modelShareBits : GoodIn wsL_law wsX5_modelShareBits := goodIn_r _ [369, 15, 225, 226, 227, 14, 228, 229, 230, 231, 232, 105, 233, 234, 235, 236, 237, 238, 239, 240, 38, 37, 241, 2, 242, 243, 244, 87, 88, 89, 90, 91, 92, 93, 370, 371, 372, 373, 345, 709, 710, 711, 712, 713, 714, 730, 731, 732, 733] (by decide +kernel) (by decide +kernel)
set_option maxRecDepth 20000 in
theorem gL_law_X5_modelShareBits : GoodIn wsL_law (wsV RL 52 RX5 yX5_modelShareBits wsX5_modelShareBits) := goodIn_app (goodIn_of _ (by decide +kernel)) ggL_law_X5_modelShareBits
set_option maxRecDepth 20000 in
theorem ggL_law_X6_modelShareBits : GoodIn wsL_law wsX6_modelShareBits := goodIn_r _ [377, 378, 249, 250, 251, 5, 252, 253, 254, 255, 256, 67, 257, 258, 259, 260, 217, 218, 219, 220, 201, 202, 203, 204, 144, 145, 146, 379, 380, 381, 382, 383, 384, 385, 386, 387, 388, 389, 390, 715, 716, 717, 718, 719, 720, 721, 722, 723, 724, 725, 726, 727, 728, 729] (by decide +kernel) (by decide +kernel)
set_option maxRecDepth 20000 in
theorem gL_law_X6_modelShareBits : GoodIn wsL_law (wsV RL 55 RX6 yX6_modelShareBits wsX6_modelShareBits) := goodIn_app (goodIn_of _ (by decide +kernel)) ggL_law_X6_modelShareBits
set_option maxRecDepth 20000 in
theorem ggL_law_X5_supports : GoodIn wsL_law wsX5_supports := goodIn_r _ [394, 15, 80, 81, 2, 82, 395, 396, 397, 14, 398, 105, 37, 38, 399, 226, 227, 228, 229, 230, 231, 232, 233, 234, 235, 236, 237, 238, 239, 240, 241, 242, 243, 244, 94, 95, 96, 97, 33, 98, 99, 100, 709, 710, 711, 712, 713, 714, 730, 731, 732, 733] (by decide +kernel) (by decide +kernel)
set_option maxRecDepth 20000 in
theorem gL_law_X5_supports : GoodIn wsL_law (wsV RL 56 RX5 yX5_supports wsX5_supports) := goodIn_app (goodIn_of _ (by decide +kernel)) ggL_law_X5_supports
set_option maxRecDepth 20000 in
theorem ggL_law_X6_supports : GoodIn wsL_law wsX6_supports := goodIn_r _ [403, 67, 133, 134, 5, 135, 136, 137, 138, 139, 147, 148, 149, 150, 69, 249, 250, 251, 252, 253, 254, 255, 256, 257, 258, 259, 260, 217, 218, 219, 220, 201, 202, 203, 204, 715, 716, 717, 718, 719, 720, 721, 722, 723, 724, 725, 726, 727, 728, 729] (by decide +kernel) (by decide +kernel)
set_option maxRecDepth 20000 in
theorem gL_law_X6_supports : GoodIn wsL_law (wsV RL 59 RX6 yX6_supports wsX6_supports) := goodIn_app (goodIn_of _ (by decide +kernel)) ggL_law_X6_supports
set_option maxRecDepth 20000 in
theorem ggL_law_X5_reason : GoodIn wsL_law wsX5_reason := goodIn_r _ [407, 15, 80, 81, 2, 82, 94, 95, 96, 97, 33, 98, 99, 100, 341, 342, 343, 344, 225, 226, 227, 14, 228, 229, 230, 231, 232, 105, 233, 234, 235, 236, 237, 238, 239, 240, 38, 37, 241, 242, 243, 244, 345, 408, 409, 410, 411, 709, 710, 711, 712, 713, 714, 730, 731, 732, 733] (by decide +kernel) (by decide +kernel)
set_option maxRecDepth 20000 in
theorem gL_law_X5_reason : GoodIn wsL_law (wsV RL 60 RX5 yX5_reason wsX5_reason) := goodIn_app (goodIn_of _ (by decide +kernel)) ggL_law_X5_reason
set_option maxRecDepth 20000 in
theorem ggL_law_X6_reason : GoodIn wsL_law wsX6_reason := goodIn_r _ [415, 354, 355, 356, 5, 357, 133, 134, 135, 136, 137, 138, 139, 147, 148, 149, 150, 69, 358, 359, 360, 361, 249, 250, 251, 252, 253, 254, 255, 256, 67, 257, 258, 259, 260, 217, 218, 219, 220, 201, 202, 203, 204, 416, 417, 418, 419, 715, 716, 717, 718, 719, 720, 721, 722, 723, 724, 725, 726, 727, 728, 729] (by decide +kernel) (by decide +kernel)
set_option maxRecDepth 20000 in
theorem gL_law_X6_reason : GoodIn wsL_law (wsV RL 63 RX6 yX6_reason wsX6_reason) := goodIn_app (goodIn_of _ (by decide +kernel)) ggL_law_X6_reason
set_option maxRecDepth 20000 in
theorem ggL_law_X5_necessary : GoodIn wsL_law wsX5_necessary := goodIn_r _ [423, 15, 80, 81, 2, 82, 94, 95, 96, 97, 33, 98, 99, 100, 341, 342, 343, 344, 225, 226, 227, 14, 228, 229, 230, 231, 232, 105, 233, 234, 235, 236, 237, 238, 239, 240, 38, 37, 241, 242, 243, 244, 345, 424, 425, 426, 427, 428, 429, 430, 431, 709, 710, 711, 712, 713, 714, 730, 731, 732, 733] (by decide +kernel) (by decide +kernel)
set_option maxRecDepth 20000 in
theorem gL_law_X5_necessary : GoodIn wsL_law (wsV RL 64 RX5 yX5_necessary wsX5_necessary) := goodIn_app (goodIn_of _ (by decide +kernel)) ggL_law_X5_necessary
set_option maxRecDepth 20000 in
theorem ggL_law_X6_necessary : GoodIn wsL_law wsX6_necessary := goodIn_r _ [435, 354, 355, 356, 5, 357, 133, 134, 135, 136, 137, 138, 139, 147, 148, 149, 150, 69, 358, 359, 360, 361, 249, 250, 251, 252, 253, 254, 255, 256, 67, 257, 258, 259, 260, 217, 218, 219, 220, 201, 202, 203, 204, 436, 437, 438, 439, 715, 716, 717, 718, 719, 720, 721, 722, 723, 724, 725, 726, 727, 728, 729] (by decide +kernel) (by decide +kernel)
set_option maxRecDepth 20000 in
theorem gL_law_X6_necessary : GoodIn wsL_law (wsV RL 67 RX6 yX6_necessary wsX6_necessary) := goodIn_app (goodIn_of _ (by decide +kernel)) ggL_law_X6_necessary
set_option maxRecDepth 20000 in
theorem ggL_law_X5_dependencies : GoodIn wsL_law wsX5_dependencies := goodIn_r _ [443, 15, 80, 81, 2, 82, 444, 445, 446, 14, 447, 448, 449, 450, 451, 105, 37, 38, 241, 242, 94, 95, 96, 97, 33, 98, 99, 100, 709, 710, 711, 712, 713, 714, 730, 731, 732, 733] (by decide +kernel) (by decide +kernel)
set_option maxRecDepth 20000 in
theorem gL_law_X5_dependencies : GoodIn wsL_law (wsV RL 68 RX5 yX5_dependencies wsX5_dependencies) := goodIn_app (goodIn_of _ (by decide +kernel)) ggL_law_X5_dependencies
set_option maxRecDepth 20000 in
theorem ggL_law_X6_dependencies : GoodIn wsL_law wsX6_dependencies := goodIn_r _ [455, 133, 134, 5, 135, 136, 137, 138, 139, 456, 457, 458, 459, 67, 201, 202, 203, 204, 217, 218, 219, 220, 147, 148, 149, 150, 69, 715, 716, 717, 718, 719, 720, 721, 722, 723, 724, 725, 726, 727, 728, 729] (by decide +kernel) (by decide +kernel)
