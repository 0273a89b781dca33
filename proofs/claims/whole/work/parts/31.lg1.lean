set_option maxRecDepth 20000 in
theorem gx3_1 : GoodIn wsL_law wsX3_init_r1 := goodIn_r _ [145, 15, 16, 33, 146, 147, 148, 149, 150, 151, 152, 153, 154, 155, 156, 157, 158, 159, 160, 161, 162, 163, 164, 165] (by decide +kernel) (by decide +kernel)
set_option maxRecDepth 20000 in
theorem gx3_2 : GoodIn wsL_law wsX3_init_r2 := goodIn_r _ [166, 167, 168, 169, 170, 171, 172, 173, 174, 175, 176, 177, 178, 179, 180, 181, 182, 183, 184, 185, 186, 187, 188, 189] (by decide +kernel) (by decide +kernel)
set_option maxRecDepth 20000 in
theorem gx3_3 : GoodIn wsL_law wsX3_init_r3 := goodIn_r _ [190, 191, 192, 193, 194, 195, 196, 197, 198, 199, 200, 201, 202, 203, 204, 205, 206, 207, 208, 209, 210, 211, 212, 213] (by decide +kernel) (by decide +kernel)
set_option maxRecDepth 20000 in
theorem gx3_4 : GoodIn wsL_law wsX3_init_r4 := goodIn_r _ [214, 215, 216, 217, 218, 219, 220, 221, 222, 223, 224, 225, 226, 227, 228, 229, 230, 231, 232, 233, 234, 235, 5, 236] (by decide +kernel) (by decide +kernel)
set_option maxRecDepth 20000 in
theorem gx3_5 : GoodIn wsL_law wsX3_init_r5 := goodIn_r _ [237, 238, 239, 240, 241, 242, 243, 244, 245, 246, 247, 248, 249, 250, 251, 252, 253, 254, 255, 256, 257, 258, 259, 260] (by decide +kernel) (by decide +kernel)
set_option maxRecDepth 20000 in
theorem gx3_6 : GoodIn wsL_law wsX3_init_r6 := goodIn_r _ [261, 262, 263, 264, 265, 266, 267, 268, 269, 270, 271, 272, 273, 274, 275, 276, 277, 278, 279, 280, 281, 282, 283, 284] (by decide +kernel) (by decide +kernel)
set_option maxRecDepth 20000 in
theorem gx3_7 : GoodIn wsL_law wsX3_init_r7 := goodIn_r _ [285, 286, 287, 288] (by decide +kernel) (by decide +kernel)
set_option maxRecDepth 20000 in
theorem gx3_30 : GoodIn wsL_law wsX30 := goodIn_r _ [551, 552, 553, 554, 555, 556, 557, 558, 559, 560, 561, 562, 563, 564, 565, 566, 567, 568, 569, 570] (by decide +kernel) (by decide +kernel)
theorem gx3_c : GoodIn wsL_law [Cond.code yX3_init cX3_init 2 none] := fun w hw => by
  cases List.mem_singleton.mp hw
  exact ⟨(List.mem_append_left _ (List.mem_append_left _ (List.mem_append_left _ (List.mem_append_left _ (List.mem_append_left _ (List.mem_append_right _ (List.mem_append_right _ (List.mem_append_right _ (List.mem_append_right _ (List.mem_append_right _ (List.mem_append_right _ (List.mem_append_left _ List.mem_cons_self)))))))))))), Or.inl rfl⟩
theorem gL_law_X3_init : GoodIn wsL_law (wsX3_init) := show GoodIn wsL_law ([Cond.code yX3_init cX3_init 2 none] ++ ((wsX3_init_r1 ++ (wsX3_init_r2 ++ (wsX3_init_r3 ++ (wsX3_init_r4 ++ (wsX3_init_r5 ++ (wsX3_init_r6 ++ wsX3_init_r7)))))) ++ wsX30)) from goodIn_app gx3_c (goodIn_app (goodIn_app gx3_1 (goodIn_app gx3_2 (goodIn_app gx3_3 (goodIn_app gx3_4 (goodIn_app gx3_5 (goodIn_app gx3_6 gx3_7)))))) gx3_30)
