set_option maxRecDepth 20000 in
theorem ggL_law_X2_root : GoodIn wsL_law wsX2_root := goodIn_r _ [421, 35, 293, 111, 2, 112, 539, 540, 541, 542, 543, 544, 545, 546, 547, 548, 549, 550] (by decide +kernel) (by decide +kernel)
set_option maxRecDepth 20000 in
theorem gL_law_X2_root : GoodIn wsL_law (wsV RL 68 RX2 yX2_root wsX2_root) := goodIn_app (goodIn_of _ (by decide +kernel)) ggL_law_X2_root
set_option maxRecDepth 20000 in
theorem ggL_law_X3_root : GoodIn wsL_law wsX3_root := goodIn_r _ [425, 221, 551, 552, 553, 554, 555, 556, 557, 558, 559, 560, 561, 562, 563, 564, 565, 566, 567, 568, 569, 570] (by decide +kernel) (by decide +kernel)
set_option maxRecDepth 20000 in
theorem gL_law_X3_root : GoodIn wsL_law (wsV RL 71 RX3 yX3_root wsX3_root) := goodIn_app (goodIn_of _ (by decide +kernel)) ggL_law_X3_root
set_option maxRecDepth 20000 in
theorem ggL_law_X2_fault : GoodIn wsL_law wsX2_fault := goodIn_r _ [324, 27, 60, 325, 326, 327, 19, 328, 45, 111, 2, 112, 329, 330, 331, 332, 34, 31, 35, 62, 63, 64, 65, 66, 138, 139, 140, 141, 75, 76, 77, 30, 78, 79, 54, 80, 81, 82, 83, 84, 102, 103, 104, 105, 106, 86, 87, 88, 55, 89, 90, 91, 92, 93, 94, 95, 96, 97, 113, 114, 115, 116, 117, 118, 119, 120, 47, 121, 122, 123, 124, 125, 333, 334, 335, 336, 130, 131, 132, 133, 337, 338, 339, 340, 71, 72, 73, 74, 85, 98, 99, 100, 101, 107, 108, 109, 110, 48, 46, 539, 540, 541, 542, 543, 544, 545, 546, 547, 548, 549, 550, 571, 572, 573, 574, 575, 576, 577, 578, 579] (by decide +kernel) (by decide +kernel)
set_option maxRecDepth 20000 in
theorem gL_law_X2_fault : GoodIn wsL_law (wsV RL 72 RX2 yX2_fault wsX2_fault) := goodIn_app (goodIn_of _ (by decide +kernel)) ggL_law_X2_fault
set_option maxRecDepth 20000 in
theorem ggL_law_X3_fault : GoodIn wsL_law wsX3_fault := goodIn_r _ [430, 347, 348, 349, 5, 350, 231, 351, 352, 353, 354, 220, 221, 226, 249, 250, 251, 252, 285, 286, 287, 288, 261, 262, 263, 264, 265, 225, 233, 234, 235, 236, 237, 238, 239, 240, 241, 242, 243, 244, 266, 267, 268, 269, 228, 219, 270, 271, 272, 273, 227, 229, 274, 275, 276, 277, 278, 279, 280, 210, 355, 356, 357, 358, 359, 360, 361, 362, 257, 258, 259, 260, 551, 552, 553, 554, 555, 556, 557, 558, 559, 560, 561, 562, 563, 564, 565, 566, 567, 568, 569, 570] (by decide +kernel) (by decide +kernel)
set_option maxRecDepth 20000 in
theorem gL_law_X3_fault : GoodIn wsL_law (wsV RL 75 RX3 yX3_fault wsX3_fault) := goodIn_app (goodIn_of _ (by decide +kernel)) ggL_law_X3_fault
set_option maxRecDepth 20000 in
theorem ggL_law_X2_held : GoodIn wsL_law wsX2_held := goodIn_r _ [434, 27, 66, 40, 435, 436, 437, 2, 438, 60, 61, 329, 330, 331, 332, 34, 31, 35, 62, 63, 64, 65, 138, 139, 140, 141, 75, 76, 77, 30, 78, 79, 54, 80, 81, 82, 83, 84, 102, 103, 104, 105, 106, 86, 87, 88, 55, 89, 90, 91, 92, 93, 94, 95, 96, 97, 113, 114, 115, 19, 116, 45, 117, 118, 119, 120, 47, 121, 122, 123, 124, 125, 333, 334, 335, 336, 130, 131, 132, 133, 439, 337, 338, 339, 340, 71, 72, 73, 74, 85, 98, 99, 100, 101, 107, 108, 109, 110, 48, 46, 111, 112, 539, 540, 541, 542, 543, 544, 545, 546, 547, 548, 549, 550, 571, 572, 573, 574, 575, 576, 577, 578, 579] (by decide +kernel) (by decide +kernel)
set_option maxRecDepth 20000 in
theorem gL_law_X2_held : GoodIn wsL_law (wsV RL 76 RX2 yX2_held wsX2_held) := goodIn_app (goodIn_of _ (by decide +kernel)) ggL_law_X2_held
set_option maxRecDepth 20000 in
theorem ggL_law_X3_held : GoodIn wsL_law wsX3_held := goodIn_r _ [443, 231, 351, 352, 353, 5, 354, 220, 221, 226, 249, 250, 251, 252, 285, 286, 287, 288, 261, 262, 263, 264, 265, 225, 233, 234, 235, 236, 237, 238, 239, 240, 241, 242, 243, 244, 266, 267, 268, 269, 228, 219, 270, 271, 272, 273, 227, 229, 274, 275, 276, 277, 278, 279, 280, 210, 355, 356, 357, 358, 359, 360, 361, 362, 257, 258, 259, 260, 551, 552, 553, 554, 555, 556, 557, 558, 559, 560, 561, 562, 563, 564, 565, 566, 567, 568, 569, 570] (by decide +kernel) (by decide +kernel)
set_option maxRecDepth 20000 in
theorem gL_law_X3_held : GoodIn wsL_law (wsV RL 79 RX3 yX3_held wsX3_held) := goodIn_app (goodIn_of _ (by decide +kernel)) ggL_law_X3_held
set_option maxRecDepth 20000 in
theorem ggL_law_X2_first : GoodIn wsL_law wsX2_first := goodIn_r _ [447, 27, 66, 40, 435, 436, 437, 2, 438, 60, 61, 329, 330, 331, 332, 34, 31, 35, 62, 63, 64, 65, 138, 139, 140, 141, 75, 76, 77, 30, 78, 79, 54, 80, 81, 82, 83, 84, 102, 103, 104, 105, 106, 86, 87, 88, 55, 89, 90, 91, 92, 93, 94, 95, 96, 97, 113, 114, 115, 19, 116, 45, 117, 118, 119, 120, 47, 121, 122, 123, 124, 125, 333, 334, 335, 336, 130, 131, 132, 133, 439, 337, 338, 339, 340, 71, 72, 73, 74, 85, 98, 99, 100, 101, 107, 108, 109, 110, 48, 46, 111, 112, 539, 540, 541, 542, 543, 544, 545, 546, 547, 548, 549, 550, 571, 572, 573, 574, 575, 576, 577, 578, 579] (by decide +kernel) (by decide +kernel)
set_option maxRecDepth 20000 in
theorem gL_law_X2_first : GoodIn wsL_law (wsV RL 80 RX2 yX2_first wsX2_first) := goodIn_app (goodIn_of _ (by decide +kernel)) ggL_law_X2_first
set_option maxRecDepth 20000 in
theorem ggL_law_X3_first : GoodIn wsL_law wsX3_first := goodIn_r _ [451, 231, 351, 352, 353, 5, 354, 220, 221, 226, 249, 250, 251, 252, 285, 286, 287, 288, 261, 262, 263, 264, 265, 225, 233, 234, 235, 236, 237, 238, 239, 240, 241, 242, 243, 244, 266, 267, 268, 269, 228, 219, 270, 271, 272, 273, 227, 229, 274, 275, 276, 277, 278, 279, 280, 210, 355, 356, 357, 358, 359, 360, 361, 362, 257, 258, 259, 260, 551, 552, 553, 554, 555, 556, 557, 558, 559, 560, 561, 562, 563, 564, 565, 566, 567, 568, 569, 570] (by decide +kernel) (by decide +kernel)
set_option maxRecDepth 20000 in
theorem gL_law_X3_first : GoodIn wsL_law (wsV RL 83 RX3 yX3_first wsX3_first) := goodIn_app (goodIn_of _ (by decide +kernel)) ggL_law_X3_first
set_option maxRecDepth 20000 in
theorem ggL_law_X2_levels : GoodIn wsL_law wsX2_levels := goodIn_r _ [455, 27, 60, 539, 540, 541, 542, 543, 544, 545, 546, 547, 548, 549, 550, 571, 572, 573, 574, 575, 576] (by decide +kernel) (by decide +kernel)
set_option maxRecDepth 20000 in
theorem gL_law_X2_levels : GoodIn wsL_law (wsV RL 84 RX2 yX2_levels wsX2_levels) := goodIn_app (goodIn_of _ (by decide +kernel)) ggL_law_X2_levels
set_option maxRecDepth 20000 in
theorem ggL_law_X3_levels : GoodIn wsL_law wsX3_levels := goodIn_r _ [459, 233, 234, 235, 5, 236, 237, 238, 239, 240, 231, 551, 552, 553, 554, 555, 556, 557, 558, 559, 560, 561, 562, 563, 564, 565, 566, 567, 568, 569, 570] (by decide +kernel) (by decide +kernel)
set_option maxRecDepth 20000 in
theorem gL_law_X3_levels : GoodIn wsL_law (wsV RL 87 RX3 yX3_levels wsX3_levels) := goodIn_app (goodIn_of _ (by decide +kernel)) ggL_law_X3_levels
