set_option maxRecDepth 20000 in
theorem ggL_law_X2_seal : GoodIn wsL_law wsX2_seal := goodIn_r _ [380, 27, 39, 56, 57, 58, 2, 59, 34, 60, 61, 62, 63, 64, 65, 66, 67, 68, 69, 70, 31, 71, 72, 73, 74, 75, 76, 77, 30, 78, 79, 54, 80, 81, 82, 83, 84, 85, 86, 87, 88, 55, 89, 90, 91, 92, 93, 94, 95, 96, 97, 98, 99, 100, 19, 101, 102, 103, 104, 105, 106, 107, 108, 109, 110, 48, 46, 111, 112, 113, 114, 115, 116, 45, 117, 118, 119, 120, 47, 121, 122, 123, 124, 125, 126, 127, 128, 129, 130, 131, 132, 133, 134, 135, 136, 137, 35, 138, 139, 140, 141, 539, 540, 541, 542, 543, 544, 545, 546, 547, 548, 549, 550, 571, 572, 573, 574, 575, 576, 577, 578, 579] (by decide +kernel) (by decide +kernel)
set_option maxRecDepth 20000 in
theorem gL_law_X2_seal : GoodIn wsL_law (wsV RL 46 RX2 yX2_seal wsX2_seal) := goodIn_app (goodIn_of _ (by decide +kernel)) ggL_law_X2_seal
set_option maxRecDepth 20000 in
theorem ggL_law_X3_seal : GoodIn wsL_law wsX3_seal := goodIn_r _ [248, 220, 249, 250, 251, 5, 252, 231, 233, 234, 235, 236, 237, 238, 239, 240, 253, 254, 255, 256, 226, 257, 258, 259, 260, 261, 262, 263, 264, 265, 225, 241, 242, 243, 244, 266, 267, 268, 269, 228, 219, 270, 271, 272, 273, 227, 229, 274, 275, 276, 277, 278, 279, 280, 210, 281, 282, 283, 284, 221, 285, 286, 287, 288, 551, 552, 553, 554, 555, 556, 557, 558, 559, 560, 561, 562, 563, 564, 565, 566, 567, 568, 569, 570] (by decide +kernel) (by decide +kernel)
set_option maxRecDepth 20000 in
theorem gL_law_X3_seal : GoodIn wsL_law (wsV RL 50 RX3 yX3_seal wsX3_seal) := goodIn_app (goodIn_of _ (by decide +kernel)) ggL_law_X3_seal
set_option maxRecDepth 20000 in
theorem ggL_law_X2_size : GoodIn wsL_law wsX2_size := goodIn_r _ [385, 27, 32, 539, 540, 541, 542, 543, 544, 545, 546, 547, 548, 549, 550, 571, 572, 573, 574, 575, 576] (by decide +kernel) (by decide +kernel)
set_option maxRecDepth 20000 in
theorem gL_law_X2_size : GoodIn wsL_law (wsV RL 51 RX2 yX2_size wsX2_size) := goodIn_app (goodIn_of _ (by decide +kernel)) ggL_law_X2_size
set_option maxRecDepth 20000 in
theorem ggL_law_X3_size : GoodIn wsL_law wsX3_size := goodIn_r _ [389, 232, 551, 552, 553, 554, 555, 556, 557, 558, 559, 560, 561, 562, 563, 564, 565, 566, 567, 568, 569, 570] (by decide +kernel) (by decide +kernel)
set_option maxRecDepth 20000 in
theorem gL_law_X3_size : GoodIn wsL_law (wsV RL 54 RX3 yX3_size wsX3_size) := goodIn_app (goodIn_of _ (by decide +kernel)) ggL_law_X3_size
set_option maxRecDepth 20000 in
theorem ggL_law_X2_disk : GoodIn wsL_law wsX2_disk := goodIn_r _ [393, 27, 32, 34, 293, 111, 2, 112, 539, 540, 541, 542, 543, 544, 545, 546, 547, 548, 549, 550, 571, 572, 573, 574, 575, 576] (by decide +kernel) (by decide +kernel)
set_option maxRecDepth 20000 in
theorem gL_law_X2_disk : GoodIn wsL_law (wsV RL 55 RX2 yX2_disk wsX2_disk) := goodIn_app (goodIn_of _ (by decide +kernel)) ggL_law_X2_disk
set_option maxRecDepth 20000 in
theorem ggL_law_X3_disk : GoodIn wsL_law wsX3_disk := goodIn_r _ [397, 220, 398, 399, 400, 5, 401, 232, 551, 552, 553, 554, 555, 556, 557, 558, 559, 560, 561, 562, 563, 564, 565, 566, 567, 568, 569, 570] (by decide +kernel) (by decide +kernel)
set_option maxRecDepth 20000 in
theorem gL_law_X3_disk : GoodIn wsL_law (wsV RL 58 RX3 yX3_disk wsX3_disk) := goodIn_app (goodIn_of _ (by decide +kernel)) ggL_law_X3_disk
set_option maxRecDepth 20000 in
theorem ggL_law_X2_alter : GoodIn wsL_law wsX2_alter := goodIn_r _ [405, 27, 32, 34, 293, 111, 2, 112, 539, 540, 541, 542, 543, 544, 545, 546, 547, 548, 549, 550, 571, 572, 573, 574, 575, 576] (by decide +kernel) (by decide +kernel)
set_option maxRecDepth 20000 in
theorem gL_law_X2_alter : GoodIn wsL_law (wsV RL 59 RX2 yX2_alter wsX2_alter) := goodIn_app (goodIn_of _ (by decide +kernel)) ggL_law_X2_alter
set_option maxRecDepth 20000 in
theorem ggL_law_X3_alter : GoodIn wsL_law wsX3_alter := goodIn_r _ [409, 220, 398, 399, 400, 5, 401, 232, 551, 552, 553, 554, 555, 556, 557, 558, 559, 560, 561, 562, 563, 564, 565, 566, 567, 568, 569, 570] (by decide +kernel) (by decide +kernel)
set_option maxRecDepth 20000 in
theorem gL_law_X3_alter : GoodIn wsL_law (wsV RL 62 RX3 yX3_alter wsX3_alter) := goodIn_app (goodIn_of _ (by decide +kernel)) ggL_law_X3_alter
set_option maxRecDepth 20000 in
theorem ggL_law_X2_carry : GoodIn wsL_law wsX2_carry := goodIn_r _ [413, 27, 32, 34, 318, 81, 82, 83, 539, 540, 541, 542, 543, 544, 545, 546, 547, 548, 549, 550, 571, 572, 573, 574, 575, 576] (by decide +kernel) (by decide +kernel)
set_option maxRecDepth 20000 in
theorem gL_law_X2_carry : GoodIn wsL_law (wsV RL 63 RX2 yX2_carry wsX2_carry) := goodIn_app (goodIn_of _ (by decide +kernel)) ggL_law_X2_carry
set_option maxRecDepth 20000 in
theorem ggL_law_X3_carry : GoodIn wsL_law wsX3_carry := goodIn_r _ [417, 232, 230, 220, 551, 552, 553, 554, 555, 556, 557, 558, 559, 560, 561, 562, 563, 564, 565, 566, 567, 568, 569, 570] (by decide +kernel) (by decide +kernel)
set_option maxRecDepth 20000 in
theorem gL_law_X3_carry : GoodIn wsL_law (wsV RL 67 RX3 yX3_carry wsX3_carry) := goodIn_app (goodIn_of _ (by decide +kernel)) ggL_law_X3_carry
