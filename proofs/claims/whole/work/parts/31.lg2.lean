set_option maxRecDepth 20000 in
theorem ggL_law_X2_put : GoodIn wsL_law wsX2_put := goodIn_r _ [292, 36, 293, 111, 2, 112, 539, 540, 541, 542, 543, 544, 545, 546, 547, 548, 549, 550] (by decide +kernel) (by decide +kernel)
set_option maxRecDepth 20000 in
theorem gL_law_X2_put : GoodIn wsL_law (wsV RL 21 RX2 yX2_put wsX2_put) := goodIn_app (goodIn_of _ (by decide +kernel)) ggL_law_X2_put
set_option maxRecDepth 20000 in
theorem ggL_law_X3_put : GoodIn wsL_law wsX3_put := goodIn_r _ [297, 222, 551, 552, 553, 554, 555, 556, 557, 558, 559, 560, 561, 562, 563, 564, 565, 566, 567, 568, 569, 570] (by decide +kernel) (by decide +kernel)
set_option maxRecDepth 20000 in
theorem gL_law_X3_put : GoodIn wsL_law (wsV RL 25 RX3 yX3_put wsX3_put) := goodIn_app (goodIn_of _ (by decide +kernel)) ggL_law_X3_put
set_option maxRecDepth 20000 in
theorem ggL_law_X2_fill : GoodIn wsL_law wsX2_fill := goodIn_r _ [301, 36, 293, 111, 2, 112, 539, 540, 541, 542, 543, 544, 545, 546, 547, 548, 549, 550] (by decide +kernel) (by decide +kernel)
set_option maxRecDepth 20000 in
theorem gL_law_X2_fill : GoodIn wsL_law (wsV RL 28 RX2 yX2_fill wsX2_fill) := goodIn_app (goodIn_of _ (by decide +kernel)) ggL_law_X2_fill
set_option maxRecDepth 20000 in
theorem ggL_law_X3_fill : GoodIn wsL_law wsX3_fill := goodIn_r _ [305, 222, 551, 552, 553, 554, 555, 556, 557, 558, 559, 560, 561, 562, 563, 564, 565, 566, 567, 568, 569, 570] (by decide +kernel) (by decide +kernel)
set_option maxRecDepth 20000 in
theorem gL_law_X3_fill : GoodIn wsL_law (wsV RL 32 RX3 yX3_fill wsX3_fill) := goodIn_app (goodIn_of _ (by decide +kernel)) ggL_law_X3_fill
set_option maxRecDepth 20000 in
theorem ggL_law_X2_draft : GoodIn wsL_law wsX2_draft := goodIn_r _ [309, 36, 293, 111, 2, 112, 539, 540, 541, 542, 543, 544, 545, 546, 547, 548, 549, 550] (by decide +kernel) (by decide +kernel)
set_option maxRecDepth 20000 in
theorem gL_law_X2_draft : GoodIn wsL_law (wsV RL 33 RX2 yX2_draft wsX2_draft) := goodIn_app (goodIn_of _ (by decide +kernel)) ggL_law_X2_draft
set_option maxRecDepth 20000 in
theorem ggL_law_X3_draft : GoodIn wsL_law wsX3_draft := goodIn_r _ [313, 222, 551, 552, 553, 554, 555, 556, 557, 558, 559, 560, 561, 562, 563, 564, 565, 566, 567, 568, 569, 570] (by decide +kernel) (by decide +kernel)
set_option maxRecDepth 20000 in
theorem gL_law_X3_draft : GoodIn wsL_law (wsV RL 37 RX3 yX3_draft wsX3_draft) := goodIn_app (goodIn_of _ (by decide +kernel)) ggL_law_X3_draft
set_option maxRecDepth 20000 in
theorem ggL_law_X2_read : GoodIn wsL_law wsX2_read := goodIn_r _ [317, 34, 27, 36, 318, 81, 82, 83, 319, 320, 321, 322, 323, 2, 324, 60, 325, 326, 327, 19, 328, 45, 111, 112, 329, 330, 331, 332, 31, 35, 62, 63, 64, 65, 66, 138, 139, 140, 141, 75, 76, 77, 30, 78, 79, 54, 80, 84, 102, 103, 104, 105, 106, 86, 87, 88, 55, 89, 90, 91, 92, 93, 94, 95, 96, 97, 113, 114, 115, 116, 117, 118, 119, 120, 47, 121, 122, 123, 124, 125, 333, 334, 335, 336, 130, 131, 132, 133, 337, 338, 339, 340, 71, 72, 73, 74, 85, 98, 99, 100, 101, 107, 108, 109, 110, 48, 46, 539, 540, 541, 542, 543, 544, 545, 546, 547, 548, 549, 550, 571, 572, 573, 574, 575, 576, 577, 578, 579] (by decide +kernel) (by decide +kernel)
set_option maxRecDepth 20000 in
theorem gL_law_X2_read : GoodIn wsL_law (wsV RL 38 RX2 yX2_read wsX2_read) := goodIn_app (goodIn_of _ (by decide +kernel)) ggL_law_X2_read
set_option maxRecDepth 20000 in
theorem ggL_law_X3_read : GoodIn wsL_law wsX3_read := goodIn_r _ [344, 345, 222, 220, 346, 347, 348, 349, 5, 350, 231, 351, 352, 353, 354, 221, 226, 249, 250, 251, 252, 285, 286, 287, 288, 261, 262, 263, 264, 265, 225, 233, 234, 235, 236, 237, 238, 239, 240, 241, 242, 243, 244, 266, 267, 268, 269, 228, 219, 270, 271, 272, 273, 227, 229, 274, 275, 276, 277, 278, 279, 280, 210, 355, 356, 357, 358, 359, 360, 361, 362, 257, 258, 259, 260, 551, 552, 553, 554, 555, 556, 557, 558, 559, 560, 561, 562, 563, 564, 565, 566, 567, 568, 569, 570] (by decide +kernel) (by decide +kernel)
set_option maxRecDepth 20000 in
theorem gL_law_X3_read : GoodIn wsL_law (wsV RL 41 RX3 yX3_read wsX3_read) := goodIn_app (goodIn_of _ (by decide +kernel)) ggL_law_X3_read
set_option maxRecDepth 20000 in
theorem ggL_law_X2_write : GoodIn wsL_law wsX2_write := goodIn_r _ [366, 36, 34, 27, 318, 81, 82, 83, 367, 320, 321, 322, 323, 2, 324, 60, 325, 326, 327, 19, 328, 45, 111, 112, 329, 330, 331, 332, 31, 35, 62, 63, 64, 65, 66, 138, 139, 140, 141, 75, 76, 77, 30, 78, 79, 54, 80, 84, 102, 103, 104, 105, 106, 86, 87, 88, 55, 89, 90, 91, 92, 93, 94, 95, 96, 97, 113, 114, 115, 116, 117, 118, 119, 120, 47, 121, 122, 123, 124, 125, 333, 334, 335, 336, 130, 131, 132, 133, 337, 338, 339, 340, 71, 72, 73, 74, 85, 98, 99, 100, 101, 107, 108, 109, 110, 48, 46, 368, 369, 370, 371, 67, 68, 69, 70, 126, 127, 128, 129, 134, 135, 136, 137, 539, 540, 541, 542, 543, 544, 545, 546, 547, 548, 549, 550, 571, 572, 573, 574, 575, 576, 577, 578, 579] (by decide +kernel) (by decide +kernel)
set_option maxRecDepth 20000 in
theorem gL_law_X2_write : GoodIn wsL_law (wsV RL 42 RX2 yX2_write wsX2_write) := goodIn_app (goodIn_of _ (by decide +kernel)) ggL_law_X2_write
set_option maxRecDepth 20000 in
theorem ggL_law_X3_write : GoodIn wsL_law wsX3_write := goodIn_r _ [375, 345, 220, 222, 376, 347, 348, 349, 5, 350, 231, 351, 352, 353, 354, 221, 226, 249, 250, 251, 252, 285, 286, 287, 288, 261, 262, 263, 264, 265, 225, 233, 234, 235, 236, 237, 238, 239, 240, 241, 242, 243, 244, 266, 267, 268, 269, 228, 219, 270, 271, 272, 273, 227, 229, 274, 275, 276, 277, 278, 279, 280, 210, 355, 356, 357, 358, 359, 360, 361, 362, 257, 258, 259, 260, 253, 254, 255, 256, 281, 282, 283, 284, 551, 552, 553, 554, 555, 556, 557, 558, 559, 560, 561, 562, 563, 564, 565, 566, 567, 568, 569, 570] (by decide +kernel) (by decide +kernel)
set_option maxRecDepth 20000 in
theorem gL_law_X3_write : GoodIn wsL_law (wsV RL 45 RX3 yX3_write wsX3_write) := goodIn_app (goodIn_of _ (by decide +kernel)) ggL_law_X3_write
