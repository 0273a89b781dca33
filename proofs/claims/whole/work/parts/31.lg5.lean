set_option maxRecDepth 20000 in
theorem ggL_law_X2_node : GoodIn wsL_law wsX2_node := goodIn_r _ [463, 27, 107, 108, 109, 19, 110, 48, 46, 111, 2, 112, 113, 114, 115, 116, 45, 117, 118, 119, 120, 47, 539, 540, 541, 542, 543, 544, 545, 546, 547, 548, 549, 550, 571, 572, 573, 574, 575, 576] (by decide +kernel) (by decide +kernel)
set_option maxRecDepth 20000 in
theorem gL_law_X2_node : GoodIn wsL_law (wsV RL 88 RX2 yX2_node wsX2_node) := goodIn_app (goodIn_of _ (by decide +kernel)) ggL_law_X2_node
set_option maxRecDepth 20000 in
theorem ggL_law_X3_node : GoodIn wsL_law wsX3_node := goodIn_r _ [467, 233, 234, 235, 5, 236, 237, 238, 239, 240, 231, 241, 242, 243, 244, 551, 552, 553, 554, 555, 556, 557, 558, 559, 560, 561, 562, 563, 564, 565, 566, 567, 568, 569, 570] (by decide +kernel) (by decide +kernel)
set_option maxRecDepth 20000 in
theorem gL_law_X3_node : GoodIn wsL_law (wsV RL 91 RX3 yX3_node wsX3_node) := goodIn_app (goodIn_of _ (by decide +kernel)) ggL_law_X3_node
set_option maxRecDepth 20000 in
theorem ggL_law_X2_proof : GoodIn wsL_law wsX2_proof := goodIn_r _ [471, 27, 60, 325, 326, 327, 19, 328, 45, 111, 2, 112, 472, 473, 474, 107, 108, 109, 110, 48, 46, 539, 540, 541, 542, 543, 544, 545, 546, 547, 548, 549, 550, 571, 572, 573, 574, 575, 576] (by decide +kernel) (by decide +kernel)
set_option maxRecDepth 20000 in
theorem gL_law_X2_proof : GoodIn wsL_law (wsV RL 92 RX2 yX2_proof wsX2_proof) := goodIn_app (goodIn_of _ (by decide +kernel)) ggL_law_X2_proof
set_option maxRecDepth 20000 in
theorem ggL_law_X3_proof : GoodIn wsL_law wsX3_proof := goodIn_r _ [478, 347, 348, 349, 5, 350, 231, 233, 234, 235, 236, 237, 238, 239, 240, 479, 480, 481, 482, 355, 356, 357, 358, 551, 552, 553, 554, 555, 556, 557, 558, 559, 560, 561, 562, 563, 564, 565, 566, 567, 568, 569, 570] (by decide +kernel) (by decide +kernel)
set_option maxRecDepth 20000 in
theorem gL_law_X3_proof : GoodIn wsL_law (wsV RL 95 RX3 yX3_proof wsX3_proof) := goodIn_app (goodIn_of _ (by decide +kernel)) ggL_law_X3_proof
set_option maxRecDepth 20000 in
theorem ggL_law_X2_beside : GoodIn wsL_law wsX2_beside := goodIn_r _ [486, 27, 60, 34, 325, 326, 327, 19, 328, 45, 111, 2, 112, 293, 472, 473, 474, 107, 108, 109, 110, 48, 46, 113, 114, 115, 116, 117, 118, 119, 120, 47, 539, 540, 541, 542, 543, 544, 545, 546, 547, 548, 549, 550, 571, 572, 573, 574, 575, 576] (by decide +kernel) (by decide +kernel)
set_option maxRecDepth 20000 in
theorem gL_law_X2_beside : GoodIn wsL_law (wsV RL 96 RX2 yX2_beside wsX2_beside) := goodIn_app (goodIn_of _ (by decide +kernel)) ggL_law_X2_beside
set_option maxRecDepth 20000 in
theorem ggL_law_X3_beside : GoodIn wsL_law wsX3_beside := goodIn_r _ [490, 220, 347, 348, 349, 5, 350, 231, 233, 234, 235, 236, 237, 238, 239, 240, 479, 480, 481, 482, 355, 356, 357, 358, 241, 242, 243, 244, 551, 552, 553, 554, 555, 556, 557, 558, 559, 560, 561, 562, 563, 564, 565, 566, 567, 568, 569, 570] (by decide +kernel) (by decide +kernel)
set_option maxRecDepth 20000 in
theorem gL_law_X3_beside : GoodIn wsL_law (wsV RL 99 RX3 yX3_beside wsX3_beside) := goodIn_app (goodIn_of _ (by decide +kernel)) ggL_law_X3_beside
set_option maxRecDepth 20000 in
theorem ggL_law_X2_keep : GoodIn wsL_law wsX2_keep := goodIn_r _ [494, 34, 37, 27, 32, 318, 81, 82, 83, 35, 38, 495, 539, 540, 541, 542, 543, 544, 545, 546, 547, 548, 549, 550, 571, 572, 573, 574, 575, 576] (by decide +kernel) (by decide +kernel)
set_option maxRecDepth 20000 in
theorem gL_law_X2_keep : GoodIn wsL_law (wsV RL 100 RX2 yX2_keep wsX2_keep) := goodIn_app (goodIn_of _ (by decide +kernel)) ggL_law_X2_keep
set_option maxRecDepth 20000 in
theorem ggL_law_X3_keep : GoodIn wsL_law wsX3_keep := goodIn_r _ [499, 232, 223, 220, 224, 221, 500, 551, 552, 553, 554, 555, 556, 557, 558, 559, 560, 561, 562, 563, 564, 565, 566, 567, 568, 569, 570] (by decide +kernel) (by decide +kernel)
set_option maxRecDepth 20000 in
theorem gL_law_X3_keep : GoodIn wsL_law (wsV RL 103 RX3 yX3_keep wsX3_keep) := goodIn_app (goodIn_of _ (by decide +kernel)) ggL_law_X3_keep
set_option maxRecDepth 20000 in
theorem ggL_law_X2_back : GoodIn wsL_law wsX2_back := goodIn_r _ [504, 495, 505, 506, 507, 2, 508, 27, 32, 34, 37, 539, 540, 541, 542, 543, 544, 545, 546, 547, 548, 549, 550, 571, 572, 573, 574, 575, 576] (by decide +kernel) (by decide +kernel)
set_option maxRecDepth 20000 in
theorem gL_law_X2_back : GoodIn wsL_law (wsV RL 104 RX2 yX2_back wsX2_back) := goodIn_app (goodIn_of _ (by decide +kernel)) ggL_law_X2_back
set_option maxRecDepth 20000 in
theorem ggL_law_X3_back : GoodIn wsL_law wsX3_back := goodIn_r _ [512, 500, 232, 220, 223, 551, 552, 553, 554, 555, 556, 557, 558, 559, 560, 561, 562, 563, 564, 565, 566, 567, 568, 569, 570] (by decide +kernel) (by decide +kernel)
set_option maxRecDepth 20000 in
theorem gL_law_X3_back : GoodIn wsL_law (wsV RL 107 RX3 yX3_back wsX3_back) := goodIn_app (goodIn_of _ (by decide +kernel)) ggL_law_X3_back
