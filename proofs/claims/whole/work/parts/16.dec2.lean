theorem dX2_surveyTree_22 : decode cX2_surveyTree 22 = .ok (.istore 4, 2) := by decide +kernel
theorem dX2_surveyTree_24 : decode cX2_surveyTree 24 = .ok (.iload 4, 2) := by decide +kernel
theorem dX2_surveyTree_26 : decode cX2_surveyTree 26 = .ok (.aload_n 0, 1) := by decide +kernel
theorem dX2_surveyTree_27 : decode cX2_surveyTree 27 = .ok (.getfield 23, 3) := by decide +kernel
theorem dX2_surveyTree_30 : decode cX2_surveyTree 30 = .ok (.getfield 161, 3) := by decide +kernel
theorem dX2_surveyTree_33 : decode cX2_surveyTree 33 = .ok (.iload_n 3, 1) := by decide +kernel
theorem dX2_surveyTree_34 : decode cX2_surveyTree 34 = .ok (.iaload, 1) := by decide +kernel
theorem dX2_surveyTree_35 : decode cX2_surveyTree 35 = .ok (.if_icmp .ge 71, 3) := by decide +kernel
theorem dX2_surveyTree_38 : decode cX2_surveyTree 38 = .ok (.iload_n 3, 1) := by decide +kernel
theorem dX2_surveyTree_39 : decode cX2_surveyTree 39 = .ok (.iload_n 2, 1) := by decide +kernel
theorem dX2_surveyTree_40 : decode cX2_surveyTree 40 = .ok (.if_icmp .ne 7, 3) := by decide +kernel
theorem dX2_surveyTree_43 : decode cX2_surveyTree 43 = .ok (.iload_n 1, 1) := by decide +kernel
theorem dX2_surveyTree_44 : decode cX2_surveyTree 44 = .ok (.goto 22, 3) := by decide +kernel
theorem dX2_surveyTree_47 : decode cX2_surveyTree 47 = .ok (.aload_n 0, 1) := by decide +kernel
theorem dX2_surveyTree_48 : decode cX2_surveyTree 48 = .ok (.getfield 57, 3) := by decide +kernel
theorem dX2_surveyTree_51 : decode cX2_surveyTree 51 = .ok (.aload_n 0, 1) := by decide +kernel
theorem dX2_surveyTree_52 : decode cX2_surveyTree 52 = .ok (.getfield 23, 3) := by decide +kernel
theorem dX2_surveyTree_55 : decode cX2_surveyTree 55 = .ok (.iload_n 3, 1) := by decide +kernel
theorem dX2_surveyTree_56 : decode cX2_surveyTree 56 = .ok (.iconst 1, 1) := by decide +kernel
theorem dX2_surveyTree_57 : decode cX2_surveyTree 57 = .ok (.iadd, 1) := by decide +kernel
theorem dX2_surveyTree_58 : decode cX2_surveyTree 58 = .ok (.iload 4, 2) := by decide +kernel
theorem dX2_surveyTree_60 : decode cX2_surveyTree 60 = .ok (.iconst 2, 1) := by decide +kernel
theorem dX2_surveyTree_61 : decode cX2_surveyTree 61 = .ok (.idiv, 1) := by decide +kernel
theorem dX2_surveyTree_62 : decode cX2_surveyTree 62 = .ok (.invokevirtual 112, 3) := by decide +kernel
theorem dX2_surveyTree_65 : decode cX2_surveyTree 65 = .ok (.iaload, 1) := by decide +kernel
theorem dX2_surveyTree_66 : decode cX2_surveyTree 66 = .ok (.istore 5, 2) := by decide +kernel
theorem dX2_surveyTree_68 : decode cX2_surveyTree 68 = .ok (.aload_n 0, 1) := by decide +kernel
theorem dX2_surveyTree_69 : decode cX2_surveyTree 69 = .ok (.getfield 57, 3) := by decide +kernel
theorem dX2_surveyTree_72 : decode cX2_surveyTree 72 = .ok (.aload_n 0, 1) := by decide +kernel
theorem dX2_surveyTree_73 : decode cX2_surveyTree 73 = .ok (.getfield 23, 3) := by decide +kernel
theorem dX2_surveyTree_76 : decode cX2_surveyTree 76 = .ok (.iload_n 3, 1) := by decide +kernel
theorem dX2_surveyTree_77 : decode cX2_surveyTree 77 = .ok (.iload 4, 2) := by decide +kernel
theorem dX2_surveyTree_79 : decode cX2_surveyTree 79 = .ok (.invokevirtual 112, 3) := by decide +kernel
theorem dX2_surveyTree_82 : decode cX2_surveyTree 82 = .ok (.iload 5, 2) := by decide +kernel
theorem dX2_surveyTree_84 : decode cX2_surveyTree 84 = .ok (.ifCond .eq 8, 3) := by decide +kernel
theorem dX2_surveyTree_87 : decode cX2_surveyTree 87 = .ok (.iload 5, 2) := by decide +kernel
theorem dX2_surveyTree_89 : decode cX2_surveyTree 89 = .ok (.goto 10, 3) := by decide +kernel
theorem dX2_surveyTree_92 : decode cX2_surveyTree 92 = .ok (.aload_n 0, 1) := by decide +kernel
theorem dX2_surveyTree_93 : decode cX2_surveyTree 93 = .ok (.iload_n 3, 1) := by decide +kernel
theorem dX2_surveyTree_94 : decode cX2_surveyTree 94 = .ok (.iload 4, 2) := by decide +kernel
theorem dX2_surveyTree_96 : decode cX2_surveyTree 96 = .ok (.invokevirtual 103, 3) := by decide +kernel
theorem dX2_surveyTree_99 : decode cX2_surveyTree 99 = .ok (.iastore, 1) := by decide +kernel
theorem dX2_surveyTree_100 : decode cX2_surveyTree 100 = .ok (.iinc 4 1, 3) := by decide +kernel
theorem dX2_surveyTree_103 : decode cX2_surveyTree 103 = .ok (.goto (-79), 3) := by decide +kernel
theorem dX2_surveyTree_106 : decode cX2_surveyTree 106 = .ok (.iinc 3 (-1), 3) := by decide +kernel
theorem dX2_surveyTree_109 : decode cX2_surveyTree 109 = .ok (.goto (-92), 3) := by decide +kernel
theorem dX2_surveyTree_112 : decode cX2_surveyTree 112 = .ok (.return_, 1) := by decide +kernel
set_option maxRecDepth 20000 in
theorem ggX2_sealNode_X2_hashNode : GoodIn wsX2_sealNode wsX2_hashNode := goodIn_r _ [8, 1, 2, 3, 9, 10, 11, 12, 13, 14, 15, 16, 17, 18, 19, 20, 21, 22, 23, 24, 25, 26, 27, 28, 29, 30, 31, 32, 33, 34, 35, 36, 37, 38, 39, 40, 41, 42, 43, 44, 45, 46, 47, 48, 49, 50, 51, 7, 52, 53, 54, 55, 56, 57, 58, 59, 60, 61, 62, 63, 64, 65, 66, 67, 76, 77, 78, 79, 80, 81, 82, 83, 84, 85, 86, 87, 88, 89, 90, 91, 92, 93, 94, 95, 96] (by decide +kernel) (by decide +kernel)
set_option maxRecDepth 20000 in
theorem gX2_sealNode_X2_hashNode : GoodIn wsX2_sealNode (wsV RX2 157 RX2 yX2_hashNode wsX2_hashNode) := goodIn_app (goodIn_of _ (by decide +kernel)) ggX2_sealNode_X2_hashNode
set_option maxRecDepth 20000 in
theorem ggX2_sealNode_X1_placeOfNode : GoodIn wsX2_sealNode wsX1_placeOfNode := goodIn_r _ [56, 57, 58, 59, 60, 38, 61, 62, 91, 92, 93, 94, 95, 96] (by decide +kernel) (by decide +kernel)
set_option maxRecDepth 20000 in
theorem gX2_sealNode_X1_placeOfNode : GoodIn wsX2_sealNode (wsV RX2 118 RX1 yX1_placeOfNode wsX1_placeOfNode) := goodIn_app (goodIn_of _ (by decide +kernel)) ggX2_sealNode_X1_placeOfNode
set_option maxRecDepth 20000 in
theorem ggX2_sealNode_X0_copyResult : GoodIn wsX2_sealNode wsX0_copyResult := goodIn_r _ [71, 72, 73, 74, 12, 75, 15, 88, 89, 90] (by decide +kernel) (by decide +kernel)
set_option maxRecDepth 20000 in
theorem gX2_sealNode_X0_copyResult : GoodIn wsX2_sealNode (wsV RX2 164 RX0 yX0_copyResult wsX0_copyResult) := goodIn_app (goodIn_of _ (by decide +kernel)) ggX2_sealNode_X0_copyResult
theorem dX2_sealNode_0 : decode cX2_sealNode 0 = .ok (.aload_n 0, 1) := by decide +kernel
theorem dX2_sealNode_1 : decode cX2_sealNode 1 = .ok (.iload_n 1, 1) := by decide +kernel
theorem dX2_sealNode_2 : decode cX2_sealNode 2 = .ok (.iload_n 2, 1) := by decide +kernel
theorem dX2_sealNode_3 : decode cX2_sealNode 3 = .ok (.invokevirtual 157, 3) := by decide +kernel
theorem dX2_sealNode_6 : decode cX2_sealNode 6 = .ok (.aload_n 0, 1) := by decide +kernel
theorem dX2_sealNode_7 : decode cX2_sealNode 7 = .ok (.getfield 30, 3) := by decide +kernel
theorem dX2_sealNode_10 : decode cX2_sealNode 10 = .ok (.aload_n 0, 1) := by decide +kernel
theorem dX2_sealNode_11 : decode cX2_sealNode 11 = .ok (.getfield 38, 3) := by decide +kernel
theorem dX2_sealNode_14 : decode cX2_sealNode 14 = .ok (.aload_n 0, 1) := by decide +kernel
theorem dX2_sealNode_15 : decode cX2_sealNode 15 = .ok (.getfield 23, 3) := by decide +kernel
theorem dX2_sealNode_18 : decode cX2_sealNode 18 = .ok (.iload_n 1, 1) := by decide +kernel
theorem dX2_sealNode_19 : decode cX2_sealNode 19 = .ok (.iload_n 2, 1) := by decide +kernel
theorem dX2_sealNode_20 : decode cX2_sealNode 20 = .ok (.invokevirtual 118, 3) := by decide +kernel
theorem dX2_sealNode_23 : decode cX2_sealNode 23 = .ok (.invokevirtual 164, 3) := by decide +kernel
theorem dX2_sealNode_26 : decode cX2_sealNode 26 = .ok (.return_, 1) := by decide +kernel
set_option maxRecDepth 20000 in
theorem ggX2_sealRoot_X2_hashHeadAndLastNode : GoodIn wsX2_sealRoot wsX2_hashHeadAndLastNode := goodIn_r _ [7, 1, 8, 9, 10, 11, 12, 13, 14, 15, 16, 17, 18, 19, 20, 21, 22, 23, 24, 25, 26, 27, 28, 29, 30, 31, 32, 33, 34, 35, 36, 37, 38, 39, 40, 41, 42, 43, 44, 45, 46, 47, 48, 49, 50, 51, 52, 53, 54, 55, 56, 65, 66, 67, 68, 69, 70, 71, 72, 73, 74, 75, 76, 77, 78, 79, 80, 81, 82, 83, 84, 85] (by decide +kernel) (by decide +kernel)
set_option maxRecDepth 20000 in
theorem gX2_sealRoot_X2_hashHeadAndLastNode : GoodIn wsX2_sealRoot (wsV RX2 150 RX2 yX2_hashHeadAndLastNode wsX2_hashHeadAndLastNode) := goodIn_app (goodIn_of _ (by decide +kernel)) ggX2_sealRoot_X2_hashHeadAndLastNode
set_option maxRecDepth 20000 in
theorem ggX2_sealRoot_X0_copyResult : GoodIn wsX2_sealRoot wsX0_copyResult := goodIn_r _ [60, 61, 62, 63, 14, 64, 17, 83, 84, 85] (by decide +kernel) (by decide +kernel)
set_option maxRecDepth 20000 in
theorem gX2_sealRoot_X0_copyResult : GoodIn wsX2_sealRoot (wsV RX2 164 RX0 yX0_copyResult wsX0_copyResult) := goodIn_app (goodIn_of _ (by decide +kernel)) ggX2_sealRoot_X0_copyResult
theorem dX2_sealRoot_0 : decode cX2_sealRoot 0 = .ok (.aload_n 0, 1) := by decide +kernel
theorem dX2_sealRoot_1 : decode cX2_sealRoot 1 = .ok (.invokevirtual 150, 3) := by decide +kernel
theorem dX2_sealRoot_4 : decode cX2_sealRoot 4 = .ok (.aload_n 0, 1) := by decide +kernel
theorem dX2_sealRoot_5 : decode cX2_sealRoot 5 = .ok (.getfield 30, 3) := by decide +kernel
theorem dX2_sealRoot_8 : decode cX2_sealRoot 8 = .ok (.aload_n 0, 1) := by decide +kernel
theorem dX2_sealRoot_9 : decode cX2_sealRoot 9 = .ok (.getfield 42, 3) := by decide +kernel
theorem dX2_sealRoot_12 : decode cX2_sealRoot 12 = .ok (.iconst 0, 1) := by decide +kernel
theorem dX2_sealRoot_13 : decode cX2_sealRoot 13 = .ok (.invokevirtual 164, 3) := by decide +kernel
theorem dX2_sealRoot_16 : decode cX2_sealRoot 16 = .ok (.return_, 1) := by decide +kernel
set_option maxRecDepth 20000 in
theorem ggX2_sealWay_X2_sealNode : GoodIn wsX2_sealWay wsX2_sealNode := goodIn_r _ [7, 8, 9, 1, 10, 11, 12, 6, 13, 14, 15, 16, 17, 18, 19, 20, 21, 22, 23, 24, 25, 26, 27, 28, 29, 30, 31, 32, 33, 34, 35, 36, 37, 38, 39, 40, 41, 42, 43, 44, 45, 46, 47, 48, 49, 50, 51, 52, 53, 54, 55, 56, 57, 58, 59, 60, 61, 62, 63, 64, 65, 66, 67, 68, 69, 70, 71, 72, 73, 74, 75, 76, 77, 78, 79, 80, 90, 91, 92, 93, 94, 95, 96, 97, 98, 99, 100, 101, 108, 109, 110, 102, 103, 104, 105, 106, 107] (by decide +kernel) (by decide +kernel)
set_option maxRecDepth 20000 in
theorem gX2_sealWay_X2_sealNode : GoodIn wsX2_sealWay (wsV RX2 168 RX2 yX2_sealNode wsX2_sealNode) := goodIn_app (goodIn_of _ (by decide +kernel)) ggX2_sealWay_X2_sealNode
set_option maxRecDepth 20000 in
theorem ggX2_sealWay_X2_sealRoot : GoodIn wsX2_sealWay wsX2_sealRoot := goodIn_r _ [84, 8, 85, 86, 87, 88, 6, 89, 9, 1, 2, 14, 15, 16, 17, 18, 19, 20, 21, 22, 23, 24, 25, 45, 46, 47, 48, 49, 27, 28, 29, 30, 31, 32, 33, 34, 35, 36, 37, 38, 39, 58, 59, 60, 43, 61, 62, 63, 64, 65, 66, 67, 68, 69, 70, 71, 72, 73, 74, 75, 76, 77, 78, 79, 80, 90, 91, 92, 93, 94, 95, 96, 97, 98, 99, 100, 101, 102, 103, 104, 105, 106, 107, 108, 109, 110] (by decide +kernel) (by decide +kernel)
set_option maxRecDepth 20000 in
theorem gX2_sealWay_X2_sealRoot : GoodIn wsX2_sealWay (wsV RX2 171 RX2 yX2_sealRoot wsX2_sealRoot) := goodIn_app (goodIn_of _ (by decide +kernel)) ggX2_sealWay_X2_sealRoot
theorem dX2_sealWay_0 : decode cX2_sealWay 0 = .ok (.iconst 0, 1) := by decide +kernel
theorem dX2_sealWay_1 : decode cX2_sealWay 1 = .ok (.istore_n 2, 1) := by decide +kernel
theorem dX2_sealWay_2 : decode cX2_sealWay 2 = .ok (.iload_n 2, 1) := by decide +kernel
theorem dX2_sealWay_3 : decode cX2_sealWay 3 = .ok (.aload_n 0, 1) := by decide +kernel
theorem dX2_sealWay_4 : decode cX2_sealWay 4 = .ok (.getfield 23, 3) := by decide +kernel
theorem dX2_sealWay_7 : decode cX2_sealWay 7 = .ok (.getfield 100, 3) := by decide +kernel
theorem dX2_sealWay_10 : decode cX2_sealWay 10 = .ok (.if_icmp .ge 17, 3) := by decide +kernel
theorem dX2_sealWay_13 : decode cX2_sealWay 13 = .ok (.aload_n 0, 1) := by decide +kernel
theorem dX2_sealWay_14 : decode cX2_sealWay 14 = .ok (.iload_n 2, 1) := by decide +kernel
theorem dX2_sealWay_15 : decode cX2_sealWay 15 = .ok (.iload_n 1, 1) := by decide +kernel
theorem dX2_sealWay_16 : decode cX2_sealWay 16 = .ok (.iload_n 2, 1) := by decide +kernel
theorem dX2_sealWay_17 : decode cX2_sealWay 17 = .ok (.ishr, 1) := by decide +kernel
theorem dX2_sealWay_18 : decode cX2_sealWay 18 = .ok (.invokevirtual 168, 3) := by decide +kernel
theorem dX2_sealWay_21 : decode cX2_sealWay 21 = .ok (.iinc 2 1, 3) := by decide +kernel
theorem dX2_sealWay_24 : decode cX2_sealWay 24 = .ok (.goto (-22), 3) := by decide +kernel
theorem dX2_sealWay_27 : decode cX2_sealWay 27 = .ok (.aload_n 0, 1) := by decide +kernel
theorem dX2_sealWay_28 : decode cX2_sealWay 28 = .ok (.invokevirtual 171, 3) := by decide +kernel
theorem dX2_sealWay_31 : decode cX2_sealWay 31 = .ok (.return_, 1) := by decide +kernel
set_option maxRecDepth 20000 in
theorem ggX2_sealAll_X2_headByteAsTold : GoodIn wsX2_sealAll wsX2_headByteAsTold := goodIn_r _ [9, 2, 10, 96, 97, 98, 99, 100, 101, 102, 103, 104, 105, 106, 107, 108, 109, 110, 111, 112, 113] (by decide +kernel) (by decide +kernel)
set_option maxRecDepth 20000 in
theorem gX2_sealAll_X2_headByteAsTold : GoodIn wsX2_sealAll (wsV RX2 147 RX2 yX2_headByteAsTold wsX2_headByteAsTold) := goodIn_app (goodIn_of _ (by decide +kernel)) ggX2_sealAll_X2_headByteAsTold
set_option maxRecDepth 20000 in
theorem ggX2_sealAll_X2_sealNode : GoodIn wsX2_sealAll wsX2_sealNode := goodIn_r _ [14, 15, 1, 2, 16, 17, 18, 8, 19, 20, 21, 22, 23, 24, 25, 26, 27, 28, 29, 30, 31, 32, 33, 34, 35, 36, 37, 38, 39, 40, 41, 42, 43, 44, 45, 46, 47, 48, 49, 50, 51, 52, 53, 54, 55, 56, 57, 58, 59, 60, 61, 62, 63, 64, 65, 66, 67, 68, 69, 70, 71, 72, 73, 74, 75, 76, 77, 78, 79, 80, 81, 82, 83, 84, 85, 86, 96, 97, 98, 99, 100, 101, 102, 103, 104, 105, 106, 107, 114, 115, 116, 108, 109, 110, 111, 112, 113] (by decide +kernel) (by decide +kernel)
set_option maxRecDepth 20000 in
theorem gX2_sealAll_X2_sealNode : GoodIn wsX2_sealAll (wsV RX2 168 RX2 yX2_sealNode wsX2_sealNode) := goodIn_app (goodIn_of _ (by decide +kernel)) ggX2_sealAll_X2_sealNode
set_option maxRecDepth 20000 in
theorem ggX2_sealAll_X2_sealRoot : GoodIn wsX2_sealAll wsX2_sealRoot := goodIn_r _ [90, 15, 91, 92, 93, 94, 8, 95, 1, 2, 3, 20, 21, 22, 23, 24, 25, 26, 27, 28, 29, 30, 31, 51, 52, 53, 54, 55, 33, 34, 35, 36, 37, 38, 39, 40, 41, 42, 43, 44, 45, 64, 65, 66, 49, 67, 68, 69, 70, 71, 72, 73, 74, 75, 76, 77, 78, 79, 80, 81, 82, 83, 84, 85, 86, 96, 97, 98, 99, 100, 101, 102, 103, 104, 105, 106, 107, 108, 109, 110, 111, 112, 113, 114, 115, 116] (by decide +kernel) (by decide +kernel)
set_option maxRecDepth 20000 in
theorem gX2_sealAll_X2_sealRoot : GoodIn wsX2_sealAll (wsV RX2 171 RX2 yX2_sealRoot wsX2_sealRoot) := goodIn_app (goodIn_of _ (by decide +kernel)) ggX2_sealAll_X2_sealRoot
theorem dX2_sealAll_0 : decode cX2_sealAll 0 = .ok (.iconst 0, 1) := by decide +kernel
theorem dX2_sealAll_1 : decode cX2_sealAll 1 = .ok (.istore_n 1, 1) := by decide +kernel
theorem dX2_sealAll_2 : decode cX2_sealAll 2 = .ok (.iload_n 1, 1) := by decide +kernel
theorem dX2_sealAll_3 : decode cX2_sealAll 3 = .ok (.bipush 8, 2) := by decide +kernel
theorem dX2_sealAll_5 : decode cX2_sealAll 5 = .ok (.if_icmp .ge 20, 3) := by decide +kernel
theorem dX2_sealAll_8 : decode cX2_sealAll 8 = .ok (.aload_n 0, 1) := by decide +kernel
theorem dX2_sealAll_9 : decode cX2_sealAll 9 = .ok (.getfield 38, 3) := by decide +kernel
theorem dX2_sealAll_12 : decode cX2_sealAll 12 = .ok (.iload_n 1, 1) := by decide +kernel
theorem dX2_sealAll_13 : decode cX2_sealAll 13 = .ok (.aload_n 0, 1) := by decide +kernel
theorem dX2_sealAll_14 : decode cX2_sealAll 14 = .ok (.iload_n 1, 1) := by decide +kernel
theorem dX2_sealAll_15 : decode cX2_sealAll 15 = .ok (.invokevirtual 147, 3) := by decide +kernel
theorem dX2_sealAll_18 : decode cX2_sealAll 18 = .ok (.iastore, 1) := by decide +kernel
theorem dX2_sealAll_19 : decode cX2_sealAll 19 = .ok (.iinc 1 1, 3) := by decide +kernel
theorem dX2_sealAll_22 : decode cX2_sealAll 22 = .ok (.goto (-20), 3) := by decide +kernel
theorem dX2_sealAll_25 : decode cX2_sealAll 25 = .ok (.iconst 0, 1) := by decide +kernel
theorem dX2_sealAll_26 : decode cX2_sealAll 26 = .ok (.istore_n 1, 1) := by decide +kernel
theorem dX2_sealAll_27 : decode cX2_sealAll 27 = .ok (.iload_n 1, 1) := by decide +kernel
theorem dX2_sealAll_28 : decode cX2_sealAll 28 = .ok (.aload_n 0, 1) := by decide +kernel
theorem dX2_sealAll_29 : decode cX2_sealAll 29 = .ok (.getfield 23, 3) := by decide +kernel
theorem dX2_sealAll_32 : decode cX2_sealAll 32 = .ok (.getfield 100, 3) := by decide +kernel
theorem dX2_sealAll_35 : decode cX2_sealAll 35 = .ok (.if_icmp .ge 36, 3) := by decide +kernel
theorem dX2_sealAll_38 : decode cX2_sealAll 38 = .ok (.iconst 0, 1) := by decide +kernel
theorem dX2_sealAll_39 : decode cX2_sealAll 39 = .ok (.istore_n 2, 1) := by decide +kernel
theorem dX2_sealAll_40 : decode cX2_sealAll 40 = .ok (.iload_n 2, 1) := by decide +kernel
theorem dX2_sealAll_41 : decode cX2_sealAll 41 = .ok (.aload_n 0, 1) := by decide +kernel
theorem dX2_sealAll_42 : decode cX2_sealAll 42 = .ok (.getfield 23, 3) := by decide +kernel
theorem dX2_sealAll_45 : decode cX2_sealAll 45 = .ok (.getfield 161, 3) := by decide +kernel
theorem dX2_sealAll_48 : decode cX2_sealAll 48 = .ok (.iload_n 1, 1) := by decide +kernel
theorem dX2_sealAll_49 : decode cX2_sealAll 49 = .ok (.iaload, 1) := by decide +kernel
theorem dX2_sealAll_50 : decode cX2_sealAll 50 = .ok (.if_icmp .ge 15, 3) := by decide +kernel
theorem dX2_sealAll_53 : decode cX2_sealAll 53 = .ok (.aload_n 0, 1) := by decide +kernel
theorem dX2_sealAll_54 : decode cX2_sealAll 54 = .ok (.iload_n 1, 1) := by decide +kernel
theorem dX2_sealAll_55 : decode cX2_sealAll 55 = .ok (.iload_n 2, 1) := by decide +kernel
theorem dX2_sealAll_56 : decode cX2_sealAll 56 = .ok (.invokevirtual 168, 3) := by decide +kernel
theorem dX2_sealAll_59 : decode cX2_sealAll 59 = .ok (.iinc 2 1, 3) := by decide +kernel
theorem dX2_sealAll_62 : decode cX2_sealAll 62 = .ok (.goto (-22), 3) := by decide +kernel
theorem dX2_sealAll_65 : decode cX2_sealAll 65 = .ok (.iinc 1 1, 3) := by decide +kernel
theorem dX2_sealAll_68 : decode cX2_sealAll 68 = .ok (.goto (-41), 3) := by decide +kernel
theorem dX2_sealAll_71 : decode cX2_sealAll 71 = .ok (.aload_n 0, 1) := by decide +kernel
theorem dX2_sealAll_72 : decode cX2_sealAll 72 = .ok (.invokevirtual 171, 3) := by decide +kernel
theorem dX2_sealAll_75 : decode cX2_sealAll 75 = .ok (.return_, 1) := by decide +kernel
theorem dX2_restoreDisk_0 : decode cX2_restoreDisk 0 = .ok (.iconst 0, 1) := by decide +kernel
theorem dX2_restoreDisk_1 : decode cX2_restoreDisk 1 = .ok (.istore_n 1, 1) := by decide +kernel
theorem dX2_restoreDisk_2 : decode cX2_restoreDisk 2 = .ok (.iconst 0, 1) := by decide +kernel
theorem dX2_restoreDisk_3 : decode cX2_restoreDisk 3 = .ok (.istore_n 2, 1) := by decide +kernel
theorem dX2_restoreDisk_4 : decode cX2_restoreDisk 4 = .ok (.iload_n 2, 1) := by decide +kernel
theorem dX2_restoreDisk_5 : decode cX2_restoreDisk 5 = .ok (.aload_n 0, 1) := by decide +kernel
theorem dX2_restoreDisk_6 : decode cX2_restoreDisk 6 = .ok (.getfield 23, 3) := by decide +kernel
theorem dX2_restoreDisk_9 : decode cX2_restoreDisk 9 = .ok (.getfield 34, 3) := by decide +kernel
theorem dX2_restoreDisk_12 : decode cX2_restoreDisk 12 = .ok (.if_icmp .ge 39, 3) := by decide +kernel
theorem dX2_restoreDisk_15 : decode cX2_restoreDisk 15 = .ok (.aload_n 0, 1) := by decide +kernel
theorem dX2_restoreDisk_16 : decode cX2_restoreDisk 16 = .ok (.getfield 38, 3) := by decide +kernel
theorem dX2_restoreDisk_19 : decode cX2_restoreDisk 19 = .ok (.iload_n 2, 1) := by decide +kernel
theorem dX2_restoreDisk_20 : decode cX2_restoreDisk 20 = .ok (.iaload, 1) := by decide +kernel
theorem dX2_restoreDisk_21 : decode cX2_restoreDisk 21 = .ok (.aload_n 0, 1) := by decide +kernel
theorem dX2_restoreDisk_22 : decode cX2_restoreDisk 22 = .ok (.getfield 48, 3) := by decide +kernel
theorem dX2_restoreDisk_25 : decode cX2_restoreDisk 25 = .ok (.iload_n 2, 1) := by decide +kernel
theorem dX2_restoreDisk_26 : decode cX2_restoreDisk 26 = .ok (.iaload, 1) := by decide +kernel
theorem dX2_restoreDisk_27 : decode cX2_restoreDisk 27 = .ok (.if_icmp .eq 18, 3) := by decide +kernel
theorem dX2_restoreDisk_30 : decode cX2_restoreDisk 30 = .ok (.iinc 1 1, 3) := by decide +kernel
theorem dX2_restoreDisk_33 : decode cX2_restoreDisk 33 = .ok (.aload_n 0, 1) := by decide +kernel
theorem dX2_restoreDisk_34 : decode cX2_restoreDisk 34 = .ok (.getfield 38, 3) := by decide +kernel
theorem dX2_restoreDisk_37 : decode cX2_restoreDisk 37 = .ok (.iload_n 2, 1) := by decide +kernel
theorem dX2_restoreDisk_38 : decode cX2_restoreDisk 38 = .ok (.aload_n 0, 1) := by decide +kernel
theorem dX2_restoreDisk_39 : decode cX2_restoreDisk 39 = .ok (.getfield 48, 3) := by decide +kernel
theorem dX2_restoreDisk_42 : decode cX2_restoreDisk 42 = .ok (.iload_n 2, 1) := by decide +kernel
theorem dX2_restoreDisk_43 : decode cX2_restoreDisk 43 = .ok (.iaload, 1) := by decide +kernel
theorem dX2_restoreDisk_44 : decode cX2_restoreDisk 44 = .ok (.iastore, 1) := by decide +kernel
theorem dX2_restoreDisk_45 : decode cX2_restoreDisk 45 = .ok (.iinc 2 1, 3) := by decide +kernel
theorem dX2_restoreDisk_48 : decode cX2_restoreDisk 48 = .ok (.goto (-44), 3) := by decide +kernel
theorem dX2_restoreDisk_51 : decode cX2_restoreDisk 51 = .ok (.iload_n 1, 1) := by decide +kernel
theorem dX2_restoreDisk_52 : decode cX2_restoreDisk 52 = .ok (.ireturn, 1) := by decide +kernel
set_option maxRecDepth 20000 in
theorem ggX3_init_X3_levelsOf : GoodIn wsX3_init wsX3_levelsOf := goodIn_r _ [96, 97, 98, 99, 95, 100, 90, 149, 150, 151, 152, 153, 154, 155, 156, 157, 158, 159, 160, 161, 162, 163, 164, 165, 166, 167, 168] (by decide +kernel) (by decide +kernel)
set_option maxRecDepth 20000 in
theorem gX3_init_X3_levelsOf : GoodIn wsX3_init (wsV RX3 125 RX3 yX3_levelsOf wsX3_levelsOf) := goodIn_app (goodIn_of _ (by decide +kernel)) ggX3_init_X3_levelsOf
set_option maxRecDepth 20000 in
theorem ggX3_init_X3_placeOf : GoodIn wsX3_init wsX3_placeOf := goodIn_r _ [104, 90, 97, 98, 99, 95, 100, 149, 150, 151, 152, 153, 154, 155, 156, 157, 158, 159, 160, 161, 162, 163, 164, 165, 166, 167, 168] (by decide +kernel) (by decide +kernel)
set_option maxRecDepth 20000 in
theorem gX3_init_X3_placeOf : GoodIn wsX3_init (wsV RX3 129 RX3 yX3_placeOf wsX3_placeOf) := goodIn_app (goodIn_of _ (by decide +kernel)) ggX3_init_X3_placeOf
set_option maxRecDepth 20000 in
theorem ggX3_init_X3_seal : GoodIn wsX3_init wsX3_seal := goodIn_r _ [108, 79, 109, 110, 111, 95, 112, 90, 92, 93, 94, 96, 97, 98, 99, 100, 113, 114, 115, 116, 85, 117, 118, 119, 120, 121, 122, 123, 124, 125, 84, 101, 102, 103, 104, 126, 127, 128, 129, 87, 78, 130, 131, 132, 133, 86, 88, 134, 135, 136, 137, 138, 139, 140, 69, 141, 142, 143, 144, 80, 145, 146, 147, 148, 149, 150, 151, 152, 153, 154, 155, 156, 157, 158, 159, 160, 161, 162, 163, 164, 165, 166, 167, 168] (by decide +kernel) (by decide +kernel)
set_option maxRecDepth 20000 in
theorem gX3_init_X3_seal : GoodIn wsX3_init (wsV RX3 136 RX3 yX3_seal wsX3_seal) := goodIn_app (goodIn_of _ (by decide +kernel)) ggX3_init_X3_seal
theorem dX3_init_0 : decode cX3_init 0 = .ok (.aload_n 0, 1) := by decide +kernel
theorem dX3_init_1 : decode cX3_init 1 = .ok (.invokespecial 1, 3) := by decide +kernel
theorem dX3_init_4 : decode cX3_init 4 = .ok (.aload_n 0, 1) := by decide +kernel
theorem dX3_init_5 : decode cX3_init 5 = .ok (.bipush 64, 2) := by decide +kernel
theorem dX3_init_7 : decode cX3_init 7 = .ok (.newarray .int, 2) := by decide +kernel
theorem dX3_init_9 : decode cX3_init 9 = .ok (.dup, 1) := by decide +kernel
theorem dX3_init_10 : decode cX3_init 10 = .ok (.iconst 0, 1) := by decide +kernel
theorem dX3_init_11 : decode cX3_init 11 = .ok (.ldc 7, 2) := by decide +kernel
theorem dX3_init_13 : decode cX3_init 13 = .ok (.iastore, 1) := by decide +kernel
theorem dX3_init_14 : decode cX3_init 14 = .ok (.dup, 1) := by decide +kernel
theorem dX3_init_15 : decode cX3_init 15 = .ok (.iconst 1, 1) := by decide +kernel
theorem dX3_init_16 : decode cX3_init 16 = .ok (.ldc 8, 2) := by decide +kernel
theorem dX3_init_18 : decode cX3_init 18 = .ok (.iastore, 1) := by decide +kernel
theorem dX3_init_19 : decode cX3_init 19 = .ok (.dup, 1) := by decide +kernel
theorem dX3_init_20 : decode cX3_init 20 = .ok (.iconst 2, 1) := by decide +kernel
theorem dX3_init_21 : decode cX3_init 21 = .ok (.ldc 9, 2) := by decide +kernel
theorem dX3_init_23 : decode cX3_init 23 = .ok (.iastore, 1) := by decide +kernel
theorem dX3_init_24 : decode cX3_init 24 = .ok (.dup, 1) := by decide +kernel
theorem dX3_init_25 : decode cX3_init 25 = .ok (.iconst 3, 1) := by decide +kernel
theorem dX3_init_26 : decode cX3_init 26 = .ok (.ldc 10, 2) := by decide +kernel
theorem dX3_init_28 : decode cX3_init 28 = .ok (.iastore, 1) := by decide +kernel
theorem dX3_init_29 : decode cX3_init 29 = .ok (.dup, 1) := by decide +kernel
theorem dX3_init_30 : decode cX3_init 30 = .ok (.iconst 4, 1) := by decide +kernel
theorem dX3_init_31 : decode cX3_init 31 = .ok (.ldc 11, 2) := by decide +kernel
theorem dX3_init_33 : decode cX3_init 33 = .ok (.iastore, 1) := by decide +kernel
theorem dX3_init_34 : decode cX3_init 34 = .ok (.dup, 1) := by decide +kernel
theorem dX3_init_35 : decode cX3_init 35 = .ok (.iconst 5, 1) := by decide +kernel
theorem dX3_init_36 : decode cX3_init 36 = .ok (.ldc 12, 2) := by decide +kernel
theorem dX3_init_38 : decode cX3_init 38 = .ok (.iastore, 1) := by decide +kernel
theorem dX3_init_39 : decode cX3_init 39 = .ok (.dup, 1) := by decide +kernel
theorem dX3_init_40 : decode cX3_init 40 = .ok (.bipush 6, 2) := by decide +kernel
theorem dX3_init_42 : decode cX3_init 42 = .ok (.ldc 13, 2) := by decide +kernel
theorem dX3_init_44 : decode cX3_init 44 = .ok (.iastore, 1) := by decide +kernel
theorem dX3_init_45 : decode cX3_init 45 = .ok (.dup, 1) := by decide +kernel
theorem dX3_init_46 : decode cX3_init 46 = .ok (.bipush 7, 2) := by decide +kernel
theorem dX3_init_48 : decode cX3_init 48 = .ok (.ldc 14, 2) := by decide +kernel
theorem dX3_init_50 : decode cX3_init 50 = .ok (.iastore, 1) := by decide +kernel
theorem dX3_init_51 : decode cX3_init 51 = .ok (.dup, 1) := by decide +kernel
theorem dX3_init_52 : decode cX3_init 52 = .ok (.bipush 8, 2) := by decide +kernel
theorem dX3_init_54 : decode cX3_init 54 = .ok (.ldc 15, 2) := by decide +kernel
theorem dX3_init_56 : decode cX3_init 56 = .ok (.iastore, 1) := by decide +kernel
theorem dX3_init_57 : decode cX3_init 57 = .ok (.dup, 1) := by decide +kernel
theorem dX3_init_58 : decode cX3_init 58 = .ok (.bipush 9, 2) := by decide +kernel
theorem dX3_init_60 : decode cX3_init 60 = .ok (.ldc 16, 2) := by decide +kernel
theorem dX3_init_62 : decode cX3_init 62 = .ok (.iastore, 1) := by decide +kernel
theorem dX3_init_63 : decode cX3_init 63 = .ok (.dup, 1) := by decide +kernel
theorem dX3_init_64 : decode cX3_init 64 = .ok (.bipush 10, 2) := by decide +kernel
theorem dX3_init_66 : decode cX3_init 66 = .ok (.ldc 17, 2) := by decide +kernel
theorem dX3_init_68 : decode cX3_init 68 = .ok (.iastore, 1) := by decide +kernel
theorem dX3_init_69 : decode cX3_init 69 = .ok (.dup, 1) := by decide +kernel
theorem dX3_init_70 : decode cX3_init 70 = .ok (.bipush 11, 2) := by decide +kernel
theorem dX3_init_72 : decode cX3_init 72 = .ok (.ldc 18, 2) := by decide +kernel
theorem dX3_init_74 : decode cX3_init 74 = .ok (.iastore, 1) := by decide +kernel
theorem dX3_init_75 : decode cX3_init 75 = .ok (.dup, 1) := by decide +kernel
theorem dX3_init_76 : decode cX3_init 76 = .ok (.bipush 12, 2) := by decide +kernel
theorem dX3_init_78 : decode cX3_init 78 = .ok (.ldc 19, 2) := by decide +kernel
theorem dX3_init_80 : decode cX3_init 80 = .ok (.iastore, 1) := by decide +kernel
theorem dX3_init_81 : decode cX3_init 81 = .ok (.dup, 1) := by decide +kernel
theorem dX3_init_82 : decode cX3_init 82 = .ok (.bipush 13, 2) := by decide +kernel
theorem dX3_init_84 : decode cX3_init 84 = .ok (.ldc 20, 2) := by decide +kernel
theorem dX3_init_86 : decode cX3_init 86 = .ok (.iastore, 1) := by decide +kernel
theorem dX3_init_87 : decode cX3_init 87 = .ok (.dup, 1) := by decide +kernel
theorem dX3_init_88 : decode cX3_init 88 = .ok (.bipush 14, 2) := by decide +kernel
theorem dX3_init_90 : decode cX3_init 90 = .ok (.ldc 21, 2) := by decide +kernel
theorem dX3_init_92 : decode cX3_init 92 = .ok (.iastore, 1) := by decide +kernel
theorem dX3_init_93 : decode cX3_init 93 = .ok (.dup, 1) := by decide +kernel
theorem dX3_init_94 : decode cX3_init 94 = .ok (.bipush 15, 2) := by decide +kernel
theorem dX3_init_96 : decode cX3_init 96 = .ok (.ldc 22, 2) := by decide +kernel
theorem dX3_init_98 : decode cX3_init 98 = .ok (.iastore, 1) := by decide +kernel
theorem dX3_init_99 : decode cX3_init 99 = .ok (.dup, 1) := by decide +kernel
theorem dX3_init_100 : decode cX3_init 100 = .ok (.bipush 16, 2) := by decide +kernel
theorem dX3_init_102 : decode cX3_init 102 = .ok (.ldc 23, 2) := by decide +kernel
theorem dX3_init_104 : decode cX3_init 104 = .ok (.iastore, 1) := by decide +kernel
theorem dX3_init_105 : decode cX3_init 105 = .ok (.dup, 1) := by decide +kernel
theorem dX3_init_106 : decode cX3_init 106 = .ok (.bipush 17, 2) := by decide +kernel
theorem dX3_init_108 : decode cX3_init 108 = .ok (.ldc 24, 2) := by decide +kernel
theorem dX3_init_110 : decode cX3_init 110 = .ok (.iastore, 1) := by decide +kernel
theorem dX3_init_111 : decode cX3_init 111 = .ok (.dup, 1) := by decide +kernel
theorem dX3_init_112 : decode cX3_init 112 = .ok (.bipush 18, 2) := by decide +kernel
theorem dX3_init_114 : decode cX3_init 114 = .ok (.ldc 25, 2) := by decide +kernel
theorem dX3_init_116 : decode cX3_init 116 = .ok (.iastore, 1) := by decide +kernel
theorem dX3_init_117 : decode cX3_init 117 = .ok (.dup, 1) := by decide +kernel
theorem dX3_init_118 : decode cX3_init 118 = .ok (.bipush 19, 2) := by decide +kernel
theorem dX3_init_120 : decode cX3_init 120 = .ok (.ldc 26, 2) := by decide +kernel
theorem dX3_init_122 : decode cX3_init 122 = .ok (.iastore, 1) := by decide +kernel
theorem dX3_init_123 : decode cX3_init 123 = .ok (.dup, 1) := by decide +kernel
theorem dX3_init_124 : decode cX3_init 124 = .ok (.bipush 20, 2) := by decide +kernel
theorem dX3_init_126 : decode cX3_init 126 = .ok (.ldc 27, 2) := by decide +kernel
theorem dX3_init_128 : decode cX3_init 128 = .ok (.iastore, 1) := by decide +kernel
theorem dX3_init_129 : decode cX3_init 129 = .ok (.dup, 1) := by decide +kernel
theorem dX3_init_130 : decode cX3_init 130 = .ok (.bipush 21, 2) := by decide +kernel
theorem dX3_init_132 : decode cX3_init 132 = .ok (.ldc 28, 2) := by decide +kernel
theorem dX3_init_134 : decode cX3_init 134 = .ok (.iastore, 1) := by decide +kernel
theorem dX3_init_135 : decode cX3_init 135 = .ok (.dup, 1) := by decide +kernel
theorem dX3_init_136 : decode cX3_init 136 = .ok (.bipush 22, 2) := by decide +kernel
theorem dX3_init_138 : decode cX3_init 138 = .ok (.ldc 29, 2) := by decide +kernel
theorem dX3_init_140 : decode cX3_init 140 = .ok (.iastore, 1) := by decide +kernel
theorem dX3_init_141 : decode cX3_init 141 = .ok (.dup, 1) := by decide +kernel
theorem dX3_init_142 : decode cX3_init 142 = .ok (.bipush 23, 2) := by decide +kernel
theorem dX3_init_144 : decode cX3_init 144 = .ok (.ldc 30, 2) := by decide +kernel
theorem dX3_init_146 : decode cX3_init 146 = .ok (.iastore, 1) := by decide +kernel
theorem dX3_init_147 : decode cX3_init 147 = .ok (.dup, 1) := by decide +kernel
theorem dX3_init_148 : decode cX3_init 148 = .ok (.bipush 24, 2) := by decide +kernel
theorem dX3_init_150 : decode cX3_init 150 = .ok (.ldc 31, 2) := by decide +kernel
theorem dX3_init_152 : decode cX3_init 152 = .ok (.iastore, 1) := by decide +kernel
theorem dX3_init_153 : decode cX3_init 153 = .ok (.dup, 1) := by decide +kernel
theorem dX3_init_154 : decode cX3_init 154 = .ok (.bipush 25, 2) := by decide +kernel
theorem dX3_init_156 : decode cX3_init 156 = .ok (.ldc 32, 2) := by decide +kernel
theorem dX3_init_158 : decode cX3_init 158 = .ok (.iastore, 1) := by decide +kernel
theorem dX3_init_159 : decode cX3_init 159 = .ok (.dup, 1) := by decide +kernel
theorem dX3_init_160 : decode cX3_init 160 = .ok (.bipush 26, 2) := by decide +kernel
theorem dX3_init_162 : decode cX3_init 162 = .ok (.ldc 33, 2) := by decide +kernel
theorem dX3_init_164 : decode cX3_init 164 = .ok (.iastore, 1) := by decide +kernel
theorem dX3_init_165 : decode cX3_init 165 = .ok (.dup, 1) := by decide +kernel
theorem dX3_init_166 : decode cX3_init 166 = .ok (.bipush 27, 2) := by decide +kernel
theorem dX3_init_168 : decode cX3_init 168 = .ok (.ldc 34, 2) := by decide +kernel
theorem dX3_init_170 : decode cX3_init 170 = .ok (.iastore, 1) := by decide +kernel
theorem dX3_init_171 : decode cX3_init 171 = .ok (.dup, 1) := by decide +kernel
theorem dX3_init_172 : decode cX3_init 172 = .ok (.bipush 28, 2) := by decide +kernel
theorem dX3_init_174 : decode cX3_init 174 = .ok (.ldc 35, 2) := by decide +kernel
theorem dX3_init_176 : decode cX3_init 176 = .ok (.iastore, 1) := by decide +kernel
theorem dX3_init_177 : decode cX3_init 177 = .ok (.dup, 1) := by decide +kernel
theorem dX3_init_178 : decode cX3_init 178 = .ok (.bipush 29, 2) := by decide +kernel
theorem dX3_init_180 : decode cX3_init 180 = .ok (.ldc 36, 2) := by decide +kernel
theorem dX3_init_182 : decode cX3_init 182 = .ok (.iastore, 1) := by decide +kernel
theorem dX3_init_183 : decode cX3_init 183 = .ok (.dup, 1) := by decide +kernel
theorem dX3_init_184 : decode cX3_init 184 = .ok (.bipush 30, 2) := by decide +kernel
theorem dX3_init_186 : decode cX3_init 186 = .ok (.ldc 37, 2) := by decide +kernel
theorem dX3_init_188 : decode cX3_init 188 = .ok (.iastore, 1) := by decide +kernel
theorem dX3_init_189 : decode cX3_init 189 = .ok (.dup, 1) := by decide +kernel
theorem dX3_init_190 : decode cX3_init 190 = .ok (.bipush 31, 2) := by decide +kernel
theorem dX3_init_192 : decode cX3_init 192 = .ok (.ldc 38, 2) := by decide +kernel
theorem dX3_init_194 : decode cX3_init 194 = .ok (.iastore, 1) := by decide +kernel
theorem dX3_init_195 : decode cX3_init 195 = .ok (.dup, 1) := by decide +kernel
theorem dX3_init_196 : decode cX3_init 196 = .ok (.bipush 32, 2) := by decide +kernel
theorem dX3_init_198 : decode cX3_init 198 = .ok (.ldc 39, 2) := by decide +kernel
theorem dX3_init_200 : decode cX3_init 200 = .ok (.iastore, 1) := by decide +kernel
theorem dX3_init_201 : decode cX3_init 201 = .ok (.dup, 1) := by decide +kernel
theorem dX3_init_202 : decode cX3_init 202 = .ok (.bipush 33, 2) := by decide +kernel
theorem dX3_init_204 : decode cX3_init 204 = .ok (.ldc 40, 2) := by decide +kernel
theorem dX3_init_206 : decode cX3_init 206 = .ok (.iastore, 1) := by decide +kernel
theorem dX3_init_207 : decode cX3_init 207 = .ok (.dup, 1) := by decide +kernel
theorem dX3_init_208 : decode cX3_init 208 = .ok (.bipush 34, 2) := by decide +kernel
theorem dX3_init_210 : decode cX3_init 210 = .ok (.ldc 41, 2) := by decide +kernel
theorem dX3_init_212 : decode cX3_init 212 = .ok (.iastore, 1) := by decide +kernel
theorem dX3_init_213 : decode cX3_init 213 = .ok (.dup, 1) := by decide +kernel
theorem dX3_init_214 : decode cX3_init 214 = .ok (.bipush 35, 2) := by decide +kernel
theorem dX3_init_216 : decode cX3_init 216 = .ok (.ldc 42, 2) := by decide +kernel
theorem dX3_init_218 : decode cX3_init 218 = .ok (.iastore, 1) := by decide +kernel
theorem dX3_init_219 : decode cX3_init 219 = .ok (.dup, 1) := by decide +kernel
theorem dX3_init_220 : decode cX3_init 220 = .ok (.bipush 36, 2) := by decide +kernel
theorem dX3_init_222 : decode cX3_init 222 = .ok (.ldc 43, 2) := by decide +kernel
theorem dX3_init_224 : decode cX3_init 224 = .ok (.iastore, 1) := by decide +kernel
theorem dX3_init_225 : decode cX3_init 225 = .ok (.dup, 1) := by decide +kernel
theorem dX3_init_226 : decode cX3_init 226 = .ok (.bipush 37, 2) := by decide +kernel
theorem dX3_init_228 : decode cX3_init 228 = .ok (.ldc 44, 2) := by decide +kernel
theorem dX3_init_230 : decode cX3_init 230 = .ok (.iastore, 1) := by decide +kernel
theorem dX3_init_231 : decode cX3_init 231 = .ok (.dup, 1) := by decide +kernel
theorem dX3_init_232 : decode cX3_init 232 = .ok (.bipush 38, 2) := by decide +kernel
theorem dX3_init_234 : decode cX3_init 234 = .ok (.ldc 45, 2) := by decide +kernel
theorem dX3_init_236 : decode cX3_init 236 = .ok (.iastore, 1) := by decide +kernel
theorem dX3_init_237 : decode cX3_init 237 = .ok (.dup, 1) := by decide +kernel
theorem dX3_init_238 : decode cX3_init 238 = .ok (.bipush 39, 2) := by decide +kernel
theorem dX3_init_240 : decode cX3_init 240 = .ok (.ldc 46, 2) := by decide +kernel
theorem dX3_init_242 : decode cX3_init 242 = .ok (.iastore, 1) := by decide +kernel
theorem dX3_init_243 : decode cX3_init 243 = .ok (.dup, 1) := by decide +kernel
theorem dX3_init_244 : decode cX3_init 244 = .ok (.bipush 40, 2) := by decide +kernel
theorem dX3_init_246 : decode cX3_init 246 = .ok (.ldc 47, 2) := by decide +kernel
theorem dX3_init_248 : decode cX3_init 248 = .ok (.iastore, 1) := by decide +kernel
theorem dX3_init_249 : decode cX3_init 249 = .ok (.dup, 1) := by decide +kernel
theorem dX3_init_250 : decode cX3_init 250 = .ok (.bipush 41, 2) := by decide +kernel
theorem dX3_init_252 : decode cX3_init 252 = .ok (.ldc 48, 2) := by decide +kernel
theorem dX3_init_254 : decode cX3_init 254 = .ok (.iastore, 1) := by decide +kernel
theorem dX3_init_255 : decode cX3_init 255 = .ok (.dup, 1) := by decide +kernel
theorem dX3_init_256 : decode cX3_init 256 = .ok (.bipush 42, 2) := by decide +kernel
theorem dX3_init_258 : decode cX3_init 258 = .ok (.ldc 49, 2) := by decide +kernel
theorem dX3_init_260 : decode cX3_init 260 = .ok (.iastore, 1) := by decide +kernel
theorem dX3_init_261 : decode cX3_init 261 = .ok (.dup, 1) := by decide +kernel
theorem dX3_init_262 : decode cX3_init 262 = .ok (.bipush 43, 2) := by decide +kernel
theorem dX3_init_264 : decode cX3_init 264 = .ok (.ldc 50, 2) := by decide +kernel
theorem dX3_init_266 : decode cX3_init 266 = .ok (.iastore, 1) := by decide +kernel
theorem dX3_init_267 : decode cX3_init 267 = .ok (.dup, 1) := by decide +kernel
theorem dX3_init_268 : decode cX3_init 268 = .ok (.bipush 44, 2) := by decide +kernel
theorem dX3_init_270 : decode cX3_init 270 = .ok (.ldc 51, 2) := by decide +kernel
theorem dX3_init_272 : decode cX3_init 272 = .ok (.iastore, 1) := by decide +kernel
theorem dX3_init_273 : decode cX3_init 273 = .ok (.dup, 1) := by decide +kernel
theorem dX3_init_274 : decode cX3_init 274 = .ok (.bipush 45, 2) := by decide +kernel
theorem dX3_init_276 : decode cX3_init 276 = .ok (.ldc 52, 2) := by decide +kernel
theorem dX3_init_278 : decode cX3_init 278 = .ok (.iastore, 1) := by decide +kernel
theorem dX3_init_279 : decode cX3_init 279 = .ok (.dup, 1) := by decide +kernel
theorem dX3_init_280 : decode cX3_init 280 = .ok (.bipush 46, 2) := by decide +kernel
theorem dX3_init_282 : decode cX3_init 282 = .ok (.ldc 53, 2) := by decide +kernel
theorem dX3_init_284 : decode cX3_init 284 = .ok (.iastore, 1) := by decide +kernel
theorem dX3_init_285 : decode cX3_init 285 = .ok (.dup, 1) := by decide +kernel
theorem dX3_init_286 : decode cX3_init 286 = .ok (.bipush 47, 2) := by decide +kernel
theorem dX3_init_288 : decode cX3_init 288 = .ok (.ldc 54, 2) := by decide +kernel
theorem dX3_init_290 : decode cX3_init 290 = .ok (.iastore, 1) := by decide +kernel
theorem dX3_init_291 : decode cX3_init 291 = .ok (.dup, 1) := by decide +kernel
theorem dX3_init_292 : decode cX3_init 292 = .ok (.bipush 48, 2) := by decide +kernel
theorem dX3_init_294 : decode cX3_init 294 = .ok (.ldc 55, 2) := by decide +kernel
theorem dX3_init_296 : decode cX3_init 296 = .ok (.iastore, 1) := by decide +kernel
theorem dX3_init_297 : decode cX3_init 297 = .ok (.dup, 1) := by decide +kernel
theorem dX3_init_298 : decode cX3_init 298 = .ok (.bipush 49, 2) := by decide +kernel
theorem dX3_init_300 : decode cX3_init 300 = .ok (.ldc 56, 2) := by decide +kernel
theorem dX3_init_302 : decode cX3_init 302 = .ok (.iastore, 1) := by decide +kernel
theorem dX3_init_303 : decode cX3_init 303 = .ok (.dup, 1) := by decide +kernel
theorem dX3_init_304 : decode cX3_init 304 = .ok (.bipush 50, 2) := by decide +kernel
theorem dX3_init_306 : decode cX3_init 306 = .ok (.ldc 57, 2) := by decide +kernel
theorem dX3_init_308 : decode cX3_init 308 = .ok (.iastore, 1) := by decide +kernel
theorem dX3_init_309 : decode cX3_init 309 = .ok (.dup, 1) := by decide +kernel
theorem dX3_init_310 : decode cX3_init 310 = .ok (.bipush 51, 2) := by decide +kernel
theorem dX3_init_312 : decode cX3_init 312 = .ok (.ldc 58, 2) := by decide +kernel
theorem dX3_init_314 : decode cX3_init 314 = .ok (.iastore, 1) := by decide +kernel
theorem dX3_init_315 : decode cX3_init 315 = .ok (.dup, 1) := by decide +kernel
theorem dX3_init_316 : decode cX3_init 316 = .ok (.bipush 52, 2) := by decide +kernel
theorem dX3_init_318 : decode cX3_init 318 = .ok (.ldc 59, 2) := by decide +kernel
theorem dX3_init_320 : decode cX3_init 320 = .ok (.iastore, 1) := by decide +kernel
theorem dX3_init_321 : decode cX3_init 321 = .ok (.dup, 1) := by decide +kernel
theorem dX3_init_322 : decode cX3_init 322 = .ok (.bipush 53, 2) := by decide +kernel
theorem dX3_init_324 : decode cX3_init 324 = .ok (.ldc 60, 2) := by decide +kernel
theorem dX3_init_326 : decode cX3_init 326 = .ok (.iastore, 1) := by decide +kernel
theorem dX3_init_327 : decode cX3_init 327 = .ok (.dup, 1) := by decide +kernel
theorem dX3_init_328 : decode cX3_init 328 = .ok (.bipush 54, 2) := by decide +kernel
theorem dX3_init_330 : decode cX3_init 330 = .ok (.ldc 61, 2) := by decide +kernel
theorem dX3_init_332 : decode cX3_init 332 = .ok (.iastore, 1) := by decide +kernel
theorem dX3_init_333 : decode cX3_init 333 = .ok (.dup, 1) := by decide +kernel
theorem dX3_init_334 : decode cX3_init 334 = .ok (.bipush 55, 2) := by decide +kernel
theorem dX3_init_336 : decode cX3_init 336 = .ok (.ldc 62, 2) := by decide +kernel
theorem dX3_init_338 : decode cX3_init 338 = .ok (.iastore, 1) := by decide +kernel
theorem dX3_init_339 : decode cX3_init 339 = .ok (.dup, 1) := by decide +kernel
theorem dX3_init_340 : decode cX3_init 340 = .ok (.bipush 56, 2) := by decide +kernel
theorem dX3_init_342 : decode cX3_init 342 = .ok (.ldc 63, 2) := by decide +kernel
theorem dX3_init_344 : decode cX3_init 344 = .ok (.iastore, 1) := by decide +kernel
theorem dX3_init_345 : decode cX3_init 345 = .ok (.dup, 1) := by decide +kernel
theorem dX3_init_346 : decode cX3_init 346 = .ok (.bipush 57, 2) := by decide +kernel
theorem dX3_init_348 : decode cX3_init 348 = .ok (.ldc 64, 2) := by decide +kernel
theorem dX3_init_350 : decode cX3_init 350 = .ok (.iastore, 1) := by decide +kernel
theorem dX3_init_351 : decode cX3_init 351 = .ok (.dup, 1) := by decide +kernel
theorem dX3_init_352 : decode cX3_init 352 = .ok (.bipush 58, 2) := by decide +kernel
theorem dX3_init_354 : decode cX3_init 354 = .ok (.ldc 65, 2) := by decide +kernel
theorem dX3_init_356 : decode cX3_init 356 = .ok (.iastore, 1) := by decide +kernel
theorem dX3_init_357 : decode cX3_init 357 = .ok (.dup, 1) := by decide +kernel
theorem dX3_init_358 : decode cX3_init 358 = .ok (.bipush 59, 2) := by decide +kernel
theorem dX3_init_360 : decode cX3_init 360 = .ok (.ldc 66, 2) := by decide +kernel
theorem dX3_init_362 : decode cX3_init 362 = .ok (.iastore, 1) := by decide +kernel
theorem dX3_init_363 : decode cX3_init 363 = .ok (.dup, 1) := by decide +kernel
theorem dX3_init_364 : decode cX3_init 364 = .ok (.bipush 60, 2) := by decide +kernel
theorem dX3_init_366 : decode cX3_init 366 = .ok (.ldc 67, 2) := by decide +kernel
theorem dX3_init_368 : decode cX3_init 368 = .ok (.iastore, 1) := by decide +kernel
theorem dX3_init_369 : decode cX3_init 369 = .ok (.dup, 1) := by decide +kernel
theorem dX3_init_370 : decode cX3_init 370 = .ok (.bipush 61, 2) := by decide +kernel
theorem dX3_init_372 : decode cX3_init 372 = .ok (.ldc 68, 2) := by decide +kernel
theorem dX3_init_374 : decode cX3_init 374 = .ok (.iastore, 1) := by decide +kernel
theorem dX3_init_375 : decode cX3_init 375 = .ok (.dup, 1) := by decide +kernel
theorem dX3_init_376 : decode cX3_init 376 = .ok (.bipush 62, 2) := by decide +kernel
theorem dX3_init_378 : decode cX3_init 378 = .ok (.ldc 69, 2) := by decide +kernel
theorem dX3_init_380 : decode cX3_init 380 = .ok (.iastore, 1) := by decide +kernel
theorem dX3_init_381 : decode cX3_init 381 = .ok (.dup, 1) := by decide +kernel
theorem dX3_init_382 : decode cX3_init 382 = .ok (.bipush 63, 2) := by decide +kernel
theorem dX3_init_384 : decode cX3_init 384 = .ok (.ldc 70, 2) := by decide +kernel
theorem dX3_init_386 : decode cX3_init 386 = .ok (.iastore, 1) := by decide +kernel
theorem dX3_init_387 : decode cX3_init 387 = .ok (.putfield 71, 3) := by decide +kernel
theorem dX3_init_390 : decode cX3_init 390 = .ok (.aload_n 0, 1) := by decide +kernel
theorem dX3_init_391 : decode cX3_init 391 = .ok (.bipush 8, 2) := by decide +kernel
theorem dX3_init_393 : decode cX3_init 393 = .ok (.newarray .int, 2) := by decide +kernel
theorem dX3_init_395 : decode cX3_init 395 = .ok (.dup, 1) := by decide +kernel
theorem dX3_init_396 : decode cX3_init 396 = .ok (.iconst 0, 1) := by decide +kernel
theorem dX3_init_397 : decode cX3_init 397 = .ok (.ldc 77, 2) := by decide +kernel
theorem dX3_init_399 : decode cX3_init 399 = .ok (.iastore, 1) := by decide +kernel
theorem dX3_init_400 : decode cX3_init 400 = .ok (.dup, 1) := by decide +kernel
theorem dX3_init_401 : decode cX3_init 401 = .ok (.iconst 1, 1) := by decide +kernel
theorem dX3_init_402 : decode cX3_init 402 = .ok (.ldc 78, 2) := by decide +kernel
theorem dX3_init_404 : decode cX3_init 404 = .ok (.iastore, 1) := by decide +kernel
theorem dX3_init_405 : decode cX3_init 405 = .ok (.dup, 1) := by decide +kernel
theorem dX3_init_406 : decode cX3_init 406 = .ok (.iconst 2, 1) := by decide +kernel
theorem dX3_init_407 : decode cX3_init 407 = .ok (.ldc 79, 2) := by decide +kernel
theorem dX3_init_409 : decode cX3_init 409 = .ok (.iastore, 1) := by decide +kernel
theorem dX3_init_410 : decode cX3_init 410 = .ok (.dup, 1) := by decide +kernel
theorem dX3_init_411 : decode cX3_init 411 = .ok (.iconst 3, 1) := by decide +kernel
theorem dX3_init_412 : decode cX3_init 412 = .ok (.ldc 80, 2) := by decide +kernel
theorem dX3_init_414 : decode cX3_init 414 = .ok (.iastore, 1) := by decide +kernel
theorem dX3_init_415 : decode cX3_init 415 = .ok (.dup, 1) := by decide +kernel
theorem dX3_init_416 : decode cX3_init 416 = .ok (.iconst 4, 1) := by decide +kernel
theorem dX3_init_417 : decode cX3_init 417 = .ok (.ldc 81, 2) := by decide +kernel
theorem dX3_init_419 : decode cX3_init 419 = .ok (.iastore, 1) := by decide +kernel
theorem dX3_init_420 : decode cX3_init 420 = .ok (.dup, 1) := by decide +kernel
theorem dX3_init_421 : decode cX3_init 421 = .ok (.iconst 5, 1) := by decide +kernel
theorem dX3_init_422 : decode cX3_init 422 = .ok (.ldc 82, 2) := by decide +kernel
theorem dX3_init_424 : decode cX3_init 424 = .ok (.iastore, 1) := by decide +kernel
theorem dX3_init_425 : decode cX3_init 425 = .ok (.dup, 1) := by decide +kernel
theorem dX3_init_426 : decode cX3_init 426 = .ok (.bipush 6, 2) := by decide +kernel
theorem dX3_init_428 : decode cX3_init 428 = .ok (.ldc 83, 2) := by decide +kernel
theorem dX3_init_430 : decode cX3_init 430 = .ok (.iastore, 1) := by decide +kernel
theorem dX3_init_431 : decode cX3_init 431 = .ok (.dup, 1) := by decide +kernel
theorem dX3_init_432 : decode cX3_init 432 = .ok (.bipush 7, 2) := by decide +kernel
theorem dX3_init_434 : decode cX3_init 434 = .ok (.ldc 84, 2) := by decide +kernel
theorem dX3_init_436 : decode cX3_init 436 = .ok (.iastore, 1) := by decide +kernel
theorem dX3_init_437 : decode cX3_init 437 = .ok (.putfield 85, 3) := by decide +kernel
theorem dX3_init_440 : decode cX3_init 440 = .ok (.aload_n 0, 1) := by decide +kernel
theorem dX3_init_441 : decode cX3_init 441 = .ok (.sipush 8200, 3) := by decide +kernel
theorem dX3_init_444 : decode cX3_init 444 = .ok (.newarray .int, 2) := by decide +kernel
theorem dX3_init_446 : decode cX3_init 446 = .ok (.putfield 88, 3) := by decide +kernel
theorem dX3_init_449 : decode cX3_init 449 = .ok (.aload_n 0, 1) := by decide +kernel
theorem dX3_init_450 : decode cX3_init 450 = .ok (.bipush 32, 2) := by decide +kernel
theorem dX3_init_452 : decode cX3_init 452 = .ok (.newarray .int, 2) := by decide +kernel
theorem dX3_init_454 : decode cX3_init 454 = .ok (.putfield 91, 3) := by decide +kernel
theorem dX3_init_457 : decode cX3_init 457 = .ok (.aload_n 0, 1) := by decide +kernel
theorem dX3_init_458 : decode cX3_init 458 = .ok (.bipush 64, 2) := by decide +kernel
theorem dX3_init_460 : decode cX3_init 460 = .ok (.newarray .int, 2) := by decide +kernel
theorem dX3_init_462 : decode cX3_init 462 = .ok (.putfield 94, 3) := by decide +kernel
theorem dX3_init_465 : decode cX3_init 465 = .ok (.aload_n 0, 1) := by decide +kernel
theorem dX3_init_466 : decode cX3_init 466 = .ok (.sipush 8200, 3) := by decide +kernel
theorem dX3_init_469 : decode cX3_init 469 = .ok (.newarray .int, 2) := by decide +kernel
theorem dX3_init_471 : decode cX3_init 471 = .ok (.putfield 97, 3) := by decide +kernel
theorem dX3_init_474 : decode cX3_init 474 = .ok (.aload_n 0, 1) := by decide +kernel
theorem dX3_init_475 : decode cX3_init 475 = .ok (.bipush 32, 2) := by decide +kernel
theorem dX3_init_477 : decode cX3_init 477 = .ok (.newarray .int, 2) := by decide +kernel
theorem dX3_init_479 : decode cX3_init 479 = .ok (.putfield 100, 3) := by decide +kernel
theorem dX3_init_482 : decode cX3_init 482 = .ok (.aload_n 0, 1) := by decide +kernel
theorem dX3_init_483 : decode cX3_init 483 = .ok (.sipush 256, 3) := by decide +kernel
theorem dX3_init_486 : decode cX3_init 486 = .ok (.newarray .int, 2) := by decide +kernel
theorem dX3_init_488 : decode cX3_init 488 = .ok (.putfield 103, 3) := by decide +kernel
theorem dX3_init_491 : decode cX3_init 491 = .ok (.aload_n 0, 1) := by decide +kernel
theorem dX3_init_492 : decode cX3_init 492 = .ok (.bipush 32, 2) := by decide +kernel
theorem dX3_init_494 : decode cX3_init 494 = .ok (.newarray .int, 2) := by decide +kernel
theorem dX3_init_496 : decode cX3_init 496 = .ok (.putfield 106, 3) := by decide +kernel
theorem dX3_init_499 : decode cX3_init 499 = .ok (.aload_n 0, 1) := by decide +kernel
theorem dX3_init_500 : decode cX3_init 500 = .ok (.bipush 64, 2) := by decide +kernel
theorem dX3_init_502 : decode cX3_init 502 = .ok (.newarray .int, 2) := by decide +kernel
theorem dX3_init_504 : decode cX3_init 504 = .ok (.putfield 109, 3) := by decide +kernel
theorem dX3_init_507 : decode cX3_init 507 = .ok (.aload_n 0, 1) := by decide +kernel
theorem dX3_init_508 : decode cX3_init 508 = .ok (.bipush 8, 2) := by decide +kernel
theorem dX3_init_510 : decode cX3_init 510 = .ok (.newarray .int, 2) := by decide +kernel
theorem dX3_init_512 : decode cX3_init 512 = .ok (.putfield 112, 3) := by decide +kernel
theorem dX3_init_515 : decode cX3_init 515 = .ok (.aload_n 0, 1) := by decide +kernel
theorem dX3_init_516 : decode cX3_init 516 = .ok (.bipush 8, 2) := by decide +kernel
theorem dX3_init_518 : decode cX3_init 518 = .ok (.newarray .int, 2) := by decide +kernel
theorem dX3_init_520 : decode cX3_init 520 = .ok (.putfield 115, 3) := by decide +kernel
theorem dX3_init_523 : decode cX3_init 523 = .ok (.aload_n 0, 1) := by decide +kernel
theorem dX3_init_524 : decode cX3_init 524 = .ok (.sipush 8200, 3) := by decide +kernel
theorem dX3_init_527 : decode cX3_init 527 = .ok (.newarray .int, 2) := by decide +kernel
theorem dX3_init_529 : decode cX3_init 529 = .ok (.putfield 118, 3) := by decide +kernel
theorem dX3_init_532 : decode cX3_init 532 = .ok (.aload_n 0, 1) := by decide +kernel
theorem dX3_init_533 : decode cX3_init 533 = .ok (.iload_n 1, 1) := by decide +kernel
theorem dX3_init_534 : decode cX3_init 534 = .ok (.iconst 1, 1) := by decide +kernel
theorem dX3_init_535 : decode cX3_init 535 = .ok (.if_icmp .ge 7, 3) := by decide +kernel
theorem dX3_init_538 : decode cX3_init 538 = .ok (.iconst 1, 1) := by decide +kernel
theorem dX3_init_539 : decode cX3_init 539 = .ok (.goto 15, 3) := by decide +kernel
theorem dX3_init_542 : decode cX3_init 542 = .ok (.iload_n 1, 1) := by decide +kernel
theorem dX3_init_543 : decode cX3_init 543 = .ok (.bipush 64, 2) := by decide +kernel
theorem dX3_init_545 : decode cX3_init 545 = .ok (.if_icmp .le 8, 3) := by decide +kernel
theorem dX3_init_548 : decode cX3_init 548 = .ok (.bipush 64, 2) := by decide +kernel
theorem dX3_init_550 : decode cX3_init 550 = .ok (.goto 4, 3) := by decide +kernel
theorem dX3_init_553 : decode cX3_init 553 = .ok (.iload_n 1, 1) := by decide +kernel
theorem dX3_init_554 : decode cX3_init 554 = .ok (.putfield 121, 3) := by decide +kernel
theorem dX3_init_557 : decode cX3_init 557 = .ok (.aload_n 0, 1) := by decide +kernel
theorem dX3_init_558 : decode cX3_init 558 = .ok (.aload_n 0, 1) := by decide +kernel
theorem dX3_init_559 : decode cX3_init 559 = .ok (.aload_n 0, 1) := by decide +kernel
theorem dX3_init_560 : decode cX3_init 560 = .ok (.invokevirtual 125, 3) := by decide +kernel
theorem dX3_init_563 : decode cX3_init 563 = .ok (.iconst 0, 1) := by decide +kernel
theorem dX3_init_564 : decode cX3_init 564 = .ok (.invokevirtual 129, 3) := by decide +kernel
theorem dX3_init_567 : decode cX3_init 567 = .ok (.putfield 133, 3) := by decide +kernel
theorem dX3_init_570 : decode cX3_init 570 = .ok (.aload_n 0, 1) := by decide +kernel
theorem dX3_init_571 : decode cX3_init 571 = .ok (.invokevirtual 136, 3) := by decide +kernel
theorem dX3_init_574 : decode cX3_init 574 = .ok (.pop, 1) := by decide +kernel
theorem dX3_init_575 : decode cX3_init 575 = .ok (.return_, 1) := by decide +kernel
theorem dX3_turned_0 : decode cX3_turned 0 = .ok (.iload_n 0, 1) := by decide +kernel
theorem dX3_turned_1 : decode cX3_turned 1 = .ok (.iload_n 1, 1) := by decide +kernel
theorem dX3_turned_2 : decode cX3_turned 2 = .ok (.iushr, 1) := by decide +kernel
theorem dX3_turned_3 : decode cX3_turned 3 = .ok (.iload_n 0, 1) := by decide +kernel
theorem dX3_turned_4 : decode cX3_turned 4 = .ok (.bipush 32, 2) := by decide +kernel
theorem dX3_turned_6 : decode cX3_turned 6 = .ok (.iload_n 1, 1) := by decide +kernel
theorem dX3_turned_7 : decode cX3_turned 7 = .ok (.isub, 1) := by decide +kernel
theorem dX3_turned_8 : decode cX3_turned 8 = .ok (.ishl, 1) := by decide +kernel
theorem dX3_turned_9 : decode cX3_turned 9 = .ok (.ior, 1) := by decide +kernel
theorem dX3_turned_10 : decode cX3_turned 10 = .ok (.ireturn, 1) := by decide +kernel
theorem dX3_add_0 : decode cX3_add 0 = .ok (.aload_n 0, 1) := by decide +kernel
theorem dX3_add_1 : decode cX3_add 1 = .ok (.getfield 103, 3) := by decide +kernel
theorem dX3_add_4 : decode cX3_add 4 = .ok (.aload_n 0, 1) := by decide +kernel
theorem dX3_add_5 : decode cX3_add 5 = .ok (.getfield 139, 3) := by decide +kernel
theorem dX3_add_8 : decode cX3_add 8 = .ok (.iload_n 1, 1) := by decide +kernel
theorem dX3_add_9 : decode cX3_add 9 = .ok (.sipush 255, 3) := by decide +kernel
theorem dX3_add_12 : decode cX3_add 12 = .ok (.iand, 1) := by decide +kernel
theorem dX3_add_13 : decode cX3_add 13 = .ok (.iastore, 1) := by decide +kernel
theorem dX3_add_14 : decode cX3_add 14 = .ok (.aload_n 0, 1) := by decide +kernel
theorem dX3_add_15 : decode cX3_add 15 = .ok (.dup, 1) := by decide +kernel
theorem dX3_add_16 : decode cX3_add 16 = .ok (.getfield 139, 3) := by decide +kernel
theorem dX3_add_19 : decode cX3_add 19 = .ok (.iconst 1, 1) := by decide +kernel
theorem dX3_add_20 : decode cX3_add 20 = .ok (.iadd, 1) := by decide +kernel
theorem dX3_add_21 : decode cX3_add 21 = .ok (.putfield 139, 3) := by decide +kernel
theorem dX3_add_24 : decode cX3_add 24 = .ok (.return_, 1) := by decide +kernel
set_option maxRecDepth 20000 in
theorem ggX3_hashRow_X3_add : GoodIn wsX3_hashRow wsX3_add := goodIn_r _ [9, 10, 1, 25, 26, 27, 28, 29, 30, 31, 32, 33, 34, 35, 36, 37, 38, 39, 40, 41, 42, 43, 44] (by decide +kernel) (by decide +kernel)
set_option maxRecDepth 20000 in
theorem gX3_hashRow_X3_add : GoodIn wsX3_hashRow (wsV RX3 142 RX3 yX3_add wsX3_add) := goodIn_app (goodIn_of _ (by decide +kernel)) ggX3_hashRow_X3_add
set_option maxRecDepth 20000 in
theorem ggX3_hashRow_X3_mix : GoodIn wsX3_hashRow wsX3_mix := goodIn_r _ [14, 15, 10, 16, 2, 17, 18, 8, 19, 20, 21, 22, 23, 24, 25, 26, 27, 28, 29, 30, 31, 32, 33, 34, 35, 36, 37, 38, 39, 40, 41, 42, 43, 44] (by decide +kernel) (by decide +kernel)
set_option maxRecDepth 20000 in
theorem gX3_hashRow_X3_mix : GoodIn wsX3_hashRow (wsV RX3 146 RX3 yX3_mix wsX3_mix) := goodIn_app (goodIn_of _ (by decide +kernel)) ggX3_hashRow_X3_mix
theorem dX3_hashRow_0 : decode cX3_hashRow 0 = .ok (.bipush 8, 2) := by decide +kernel
theorem dX3_hashRow_2 : decode cX3_hashRow 2 = .ok (.aload_n 0, 1) := by decide +kernel
theorem dX3_hashRow_3 : decode cX3_hashRow 3 = .ok (.getfield 139, 3) := by decide +kernel
theorem dX3_hashRow_6 : decode cX3_hashRow 6 = .ok (.imul, 1) := by decide +kernel
theorem dX3_hashRow_7 : decode cX3_hashRow 7 = .ok (.istore_n 1, 1) := by decide +kernel
theorem dX3_hashRow_8 : decode cX3_hashRow 8 = .ok (.aload_n 0, 1) := by decide +kernel
theorem dX3_hashRow_9 : decode cX3_hashRow 9 = .ok (.sipush 128, 3) := by decide +kernel
theorem dX3_hashRow_12 : decode cX3_hashRow 12 = .ok (.invokevirtual 142, 3) := by decide +kernel
theorem dX3_hashRow_15 : decode cX3_hashRow 15 = .ok (.aload_n 0, 1) := by decide +kernel
theorem dX3_hashRow_16 : decode cX3_hashRow 16 = .ok (.getfield 139, 3) := by decide +kernel
theorem dX3_hashRow_19 : decode cX3_hashRow 19 = .ok (.bipush 64, 2) := by decide +kernel
theorem dX3_hashRow_21 : decode cX3_hashRow 21 = .ok (.irem, 1) := by decide +kernel
theorem dX3_hashRow_22 : decode cX3_hashRow 22 = .ok (.bipush 56, 2) := by decide +kernel
theorem dX3_hashRow_24 : decode cX3_hashRow 24 = .ok (.if_icmp .eq 11, 3) := by decide +kernel
theorem dX3_hashRow_27 : decode cX3_hashRow 27 = .ok (.aload_n 0, 1) := by decide +kernel
theorem dX3_hashRow_28 : decode cX3_hashRow 28 = .ok (.iconst 0, 1) := by decide +kernel
theorem dX3_hashRow_29 : decode cX3_hashRow 29 = .ok (.invokevirtual 142, 3) := by decide +kernel
theorem dX3_hashRow_32 : decode cX3_hashRow 32 = .ok (.goto (-17), 3) := by decide +kernel
theorem dX3_hashRow_35 : decode cX3_hashRow 35 = .ok (.iconst 0, 1) := by decide +kernel
theorem dX3_hashRow_36 : decode cX3_hashRow 36 = .ok (.istore_n 2, 1) := by decide +kernel
theorem dX3_hashRow_37 : decode cX3_hashRow 37 = .ok (.iload_n 2, 1) := by decide +kernel
theorem dX3_hashRow_38 : decode cX3_hashRow 38 = .ok (.bipush 8, 2) := by decide +kernel
theorem dX3_hashRow_40 : decode cX3_hashRow 40 = .ok (.if_icmp .ge 33, 3) := by decide +kernel
theorem dX3_hashRow_43 : decode cX3_hashRow 43 = .ok (.aload_n 0, 1) := by decide +kernel
theorem dX3_hashRow_44 : decode cX3_hashRow 44 = .ok (.iload_n 2, 1) := by decide +kernel
theorem dX3_hashRow_45 : decode cX3_hashRow 45 = .ok (.iconst 4, 1) := by decide +kernel
theorem dX3_hashRow_46 : decode cX3_hashRow 46 = .ok (.if_icmp .ge 7, 3) := by decide +kernel
theorem dX3_hashRow_49 : decode cX3_hashRow 49 = .ok (.iconst 0, 1) := by decide +kernel
theorem dX3_hashRow_50 : decode cX3_hashRow 50 = .ok (.goto 14, 3) := by decide +kernel
theorem dX3_hashRow_53 : decode cX3_hashRow 53 = .ok (.iload_n 1, 1) := by decide +kernel
theorem dX3_hashRow_54 : decode cX3_hashRow 54 = .ok (.bipush 24, 2) := by decide +kernel
theorem dX3_hashRow_56 : decode cX3_hashRow 56 = .ok (.bipush 8, 2) := by decide +kernel
theorem dX3_hashRow_58 : decode cX3_hashRow 58 = .ok (.iload_n 2, 1) := by decide +kernel
theorem dX3_hashRow_59 : decode cX3_hashRow 59 = .ok (.iconst 4, 1) := by decide +kernel
theorem dX3_hashRow_60 : decode cX3_hashRow 60 = .ok (.isub, 1) := by decide +kernel
theorem dX3_hashRow_61 : decode cX3_hashRow 61 = .ok (.imul, 1) := by decide +kernel
theorem dX3_hashRow_62 : decode cX3_hashRow 62 = .ok (.isub, 1) := by decide +kernel
theorem dX3_hashRow_63 : decode cX3_hashRow 63 = .ok (.iushr, 1) := by decide +kernel
theorem dX3_hashRow_64 : decode cX3_hashRow 64 = .ok (.invokevirtual 142, 3) := by decide +kernel
theorem dX3_hashRow_67 : decode cX3_hashRow 67 = .ok (.iinc 2 1, 3) := by decide +kernel
theorem dX3_hashRow_70 : decode cX3_hashRow 70 = .ok (.goto (-33), 3) := by decide +kernel
theorem dX3_hashRow_73 : decode cX3_hashRow 73 = .ok (.iconst 0, 1) := by decide +kernel
theorem dX3_hashRow_74 : decode cX3_hashRow 74 = .ok (.istore_n 2, 1) := by decide +kernel
theorem dX3_hashRow_75 : decode cX3_hashRow 75 = .ok (.iload_n 2, 1) := by decide +kernel
theorem dX3_hashRow_76 : decode cX3_hashRow 76 = .ok (.bipush 8, 2) := by decide +kernel
theorem dX3_hashRow_78 : decode cX3_hashRow 78 = .ok (.if_icmp .ge 21, 3) := by decide +kernel
theorem dX3_hashRow_81 : decode cX3_hashRow 81 = .ok (.aload_n 0, 1) := by decide +kernel
theorem dX3_hashRow_82 : decode cX3_hashRow 82 = .ok (.getfield 112, 3) := by decide +kernel
theorem dX3_hashRow_85 : decode cX3_hashRow 85 = .ok (.iload_n 2, 1) := by decide +kernel
theorem dX3_hashRow_86 : decode cX3_hashRow 86 = .ok (.aload_n 0, 1) := by decide +kernel
theorem dX3_hashRow_87 : decode cX3_hashRow 87 = .ok (.getfield 85, 3) := by decide +kernel
theorem dX3_hashRow_90 : decode cX3_hashRow 90 = .ok (.iload_n 2, 1) := by decide +kernel
theorem dX3_hashRow_91 : decode cX3_hashRow 91 = .ok (.iaload, 1) := by decide +kernel
theorem dX3_hashRow_92 : decode cX3_hashRow 92 = .ok (.iastore, 1) := by decide +kernel
theorem dX3_hashRow_93 : decode cX3_hashRow 93 = .ok (.iinc 2 1, 3) := by decide +kernel
theorem dX3_hashRow_96 : decode cX3_hashRow 96 = .ok (.goto (-21), 3) := by decide +kernel
theorem dX3_hashRow_99 : decode cX3_hashRow 99 = .ok (.iconst 0, 1) := by decide +kernel
theorem dX3_hashRow_100 : decode cX3_hashRow 100 = .ok (.istore_n 2, 1) := by decide +kernel
theorem dX3_hashRow_101 : decode cX3_hashRow 101 = .ok (.iload_n 2, 1) := by decide +kernel
theorem dX3_hashRow_102 : decode cX3_hashRow 102 = .ok (.aload_n 0, 1) := by decide +kernel
theorem dX3_hashRow_103 : decode cX3_hashRow 103 = .ok (.getfield 139, 3) := by decide +kernel
theorem dX3_hashRow_106 : decode cX3_hashRow 106 = .ok (.if_icmp .ge 14, 3) := by decide +kernel
theorem dX3_hashRow_109 : decode cX3_hashRow 109 = .ok (.aload_n 0, 1) := by decide +kernel
theorem dX3_hashRow_110 : decode cX3_hashRow 110 = .ok (.iload_n 2, 1) := by decide +kernel
theorem dX3_hashRow_111 : decode cX3_hashRow 111 = .ok (.invokevirtual 146, 3) := by decide +kernel
theorem dX3_hashRow_114 : decode cX3_hashRow 114 = .ok (.iinc 2 64, 3) := by decide +kernel
theorem dX3_hashRow_117 : decode cX3_hashRow 117 = .ok (.goto (-16), 3) := by decide +kernel
theorem dX3_hashRow_120 : decode cX3_hashRow 120 = .ok (.iconst 0, 1) := by decide +kernel
theorem dX3_hashRow_121 : decode cX3_hashRow 121 = .ok (.istore_n 2, 1) := by decide +kernel
theorem dX3_hashRow_122 : decode cX3_hashRow 122 = .ok (.iload_n 2, 1) := by decide +kernel
theorem dX3_hashRow_123 : decode cX3_hashRow 123 = .ok (.bipush 32, 2) := by decide +kernel
theorem dX3_hashRow_125 : decode cX3_hashRow 125 = .ok (.if_icmp .ge 37, 3) := by decide +kernel
theorem dX3_hashRow_128 : decode cX3_hashRow 128 = .ok (.aload_n 0, 1) := by decide +kernel
theorem dX3_hashRow_129 : decode cX3_hashRow 129 = .ok (.getfield 106, 3) := by decide +kernel
theorem dX3_hashRow_132 : decode cX3_hashRow 132 = .ok (.iload_n 2, 1) := by decide +kernel
theorem dX3_hashRow_133 : decode cX3_hashRow 133 = .ok (.aload_n 0, 1) := by decide +kernel
theorem dX3_hashRow_134 : decode cX3_hashRow 134 = .ok (.getfield 112, 3) := by decide +kernel
theorem dX3_hashRow_137 : decode cX3_hashRow 137 = .ok (.iload_n 2, 1) := by decide +kernel
theorem dX3_hashRow_138 : decode cX3_hashRow 138 = .ok (.iconst 4, 1) := by decide +kernel
theorem dX3_hashRow_139 : decode cX3_hashRow 139 = .ok (.idiv, 1) := by decide +kernel
theorem dX3_hashRow_140 : decode cX3_hashRow 140 = .ok (.iaload, 1) := by decide +kernel
theorem dX3_hashRow_141 : decode cX3_hashRow 141 = .ok (.bipush 24, 2) := by decide +kernel
theorem dX3_hashRow_143 : decode cX3_hashRow 143 = .ok (.bipush 8, 2) := by decide +kernel
theorem dX3_hashRow_145 : decode cX3_hashRow 145 = .ok (.iload_n 2, 1) := by decide +kernel
theorem dX3_hashRow_146 : decode cX3_hashRow 146 = .ok (.iconst 4, 1) := by decide +kernel
theorem dX3_hashRow_147 : decode cX3_hashRow 147 = .ok (.irem, 1) := by decide +kernel
theorem dX3_hashRow_148 : decode cX3_hashRow 148 = .ok (.imul, 1) := by decide +kernel
theorem dX3_hashRow_149 : decode cX3_hashRow 149 = .ok (.isub, 1) := by decide +kernel
theorem dX3_hashRow_150 : decode cX3_hashRow 150 = .ok (.iushr, 1) := by decide +kernel
theorem dX3_hashRow_151 : decode cX3_hashRow 151 = .ok (.sipush 255, 3) := by decide +kernel
theorem dX3_hashRow_154 : decode cX3_hashRow 154 = .ok (.iand, 1) := by decide +kernel
theorem dX3_hashRow_155 : decode cX3_hashRow 155 = .ok (.iastore, 1) := by decide +kernel
theorem dX3_hashRow_156 : decode cX3_hashRow 156 = .ok (.iinc 2 1, 3) := by decide +kernel
theorem dX3_hashRow_159 : decode cX3_hashRow 159 = .ok (.goto (-37), 3) := by decide +kernel
theorem dX3_hashRow_162 : decode cX3_hashRow 162 = .ok (.return_, 1) := by decide +kernel
set_option maxRecDepth 20000 in
theorem ggX3_mix_X3_turned : GoodIn wsX3_mix wsX3_turned := goodIn_r _ [8] (by decide +kernel) (by decide +kernel)
set_option maxRecDepth 20000 in
theorem gX3_mix_X3_turned : GoodIn wsX3_mix (va_wsS RX3 149 yX3_turned wsX3_turned) := goodIn_app (goodIn_of _ (by decide +kernel)) ggX3_mix_X3_turned
set_option maxRecDepth 20000 in
theorem ggX3_mix_X3_round : GoodIn wsX3_mix wsX3_round := goodIn_r _ [12, 3, 13, 1, 5, 6, 7, 8, 14, 15, 16, 17, 18, 19, 20, 21, 22, 23, 24, 25, 26, 27, 28, 29, 30, 31, 32, 33] (by decide +kernel) (by decide +kernel)
set_option maxRecDepth 20000 in
theorem gX3_mix_X3_round : GoodIn wsX3_mix (wsV RX3 152 RX3 yX3_round wsX3_round) := goodIn_app (goodIn_of _ (by decide +kernel)) ggX3_mix_X3_round
theorem dX3_mix_0 : decode cX3_mix 0 = .ok (.iconst 0, 1) := by decide +kernel
theorem dX3_mix_1 : decode cX3_mix 1 = .ok (.istore_n 2, 1) := by decide +kernel
theorem dX3_mix_2 : decode cX3_mix 2 = .ok (.iload_n 2, 1) := by decide +kernel
theorem dX3_mix_3 : decode cX3_mix 3 = .ok (.bipush 16, 2) := by decide +kernel
theorem dX3_mix_5 : decode cX3_mix 5 = .ok (.if_icmp .ge 63, 3) := by decide +kernel
theorem dX3_mix_8 : decode cX3_mix 8 = .ok (.iload_n 1, 1) := by decide +kernel
theorem dX3_mix_9 : decode cX3_mix 9 = .ok (.iconst 4, 1) := by decide +kernel
theorem dX3_mix_10 : decode cX3_mix 10 = .ok (.iload_n 2, 1) := by decide +kernel
theorem dX3_mix_11 : decode cX3_mix 11 = .ok (.imul, 1) := by decide +kernel
theorem dX3_mix_12 : decode cX3_mix 12 = .ok (.iadd, 1) := by decide +kernel
theorem dX3_mix_13 : decode cX3_mix 13 = .ok (.istore_n 3, 1) := by decide +kernel
theorem dX3_mix_14 : decode cX3_mix 14 = .ok (.aload_n 0, 1) := by decide +kernel
theorem dX3_mix_15 : decode cX3_mix 15 = .ok (.getfield 109, 3) := by decide +kernel
theorem dX3_mix_18 : decode cX3_mix 18 = .ok (.iload_n 2, 1) := by decide +kernel
theorem dX3_mix_19 : decode cX3_mix 19 = .ok (.aload_n 0, 1) := by decide +kernel
theorem dX3_mix_20 : decode cX3_mix 20 = .ok (.getfield 103, 3) := by decide +kernel
theorem dX3_mix_23 : decode cX3_mix 23 = .ok (.iload_n 3, 1) := by decide +kernel
theorem dX3_mix_24 : decode cX3_mix 24 = .ok (.iaload, 1) := by decide +kernel
theorem dX3_mix_25 : decode cX3_mix 25 = .ok (.bipush 24, 2) := by decide +kernel
theorem dX3_mix_27 : decode cX3_mix 27 = .ok (.ishl, 1) := by decide +kernel
theorem dX3_mix_28 : decode cX3_mix 28 = .ok (.aload_n 0, 1) := by decide +kernel
theorem dX3_mix_29 : decode cX3_mix 29 = .ok (.getfield 103, 3) := by decide +kernel
theorem dX3_mix_32 : decode cX3_mix 32 = .ok (.iload_n 3, 1) := by decide +kernel
theorem dX3_mix_33 : decode cX3_mix 33 = .ok (.iconst 1, 1) := by decide +kernel
theorem dX3_mix_34 : decode cX3_mix 34 = .ok (.iadd, 1) := by decide +kernel
theorem dX3_mix_35 : decode cX3_mix 35 = .ok (.iaload, 1) := by decide +kernel
theorem dX3_mix_36 : decode cX3_mix 36 = .ok (.bipush 16, 2) := by decide +kernel
theorem dX3_mix_38 : decode cX3_mix 38 = .ok (.ishl, 1) := by decide +kernel
theorem dX3_mix_39 : decode cX3_mix 39 = .ok (.ior, 1) := by decide +kernel
theorem dX3_mix_40 : decode cX3_mix 40 = .ok (.aload_n 0, 1) := by decide +kernel
theorem dX3_mix_41 : decode cX3_mix 41 = .ok (.getfield 103, 3) := by decide +kernel
theorem dX3_mix_44 : decode cX3_mix 44 = .ok (.iload_n 3, 1) := by decide +kernel
theorem dX3_mix_45 : decode cX3_mix 45 = .ok (.iconst 2, 1) := by decide +kernel
theorem dX3_mix_46 : decode cX3_mix 46 = .ok (.iadd, 1) := by decide +kernel
theorem dX3_mix_47 : decode cX3_mix 47 = .ok (.iaload, 1) := by decide +kernel
theorem dX3_mix_48 : decode cX3_mix 48 = .ok (.bipush 8, 2) := by decide +kernel
theorem dX3_mix_50 : decode cX3_mix 50 = .ok (.ishl, 1) := by decide +kernel
theorem dX3_mix_51 : decode cX3_mix 51 = .ok (.ior, 1) := by decide +kernel
theorem dX3_mix_52 : decode cX3_mix 52 = .ok (.aload_n 0, 1) := by decide +kernel
theorem dX3_mix_53 : decode cX3_mix 53 = .ok (.getfield 103, 3) := by decide +kernel
theorem dX3_mix_56 : decode cX3_mix 56 = .ok (.iload_n 3, 1) := by decide +kernel
theorem dX3_mix_57 : decode cX3_mix 57 = .ok (.iconst 3, 1) := by decide +kernel
theorem dX3_mix_58 : decode cX3_mix 58 = .ok (.iadd, 1) := by decide +kernel
theorem dX3_mix_59 : decode cX3_mix 59 = .ok (.iaload, 1) := by decide +kernel
theorem dX3_mix_60 : decode cX3_mix 60 = .ok (.ior, 1) := by decide +kernel
theorem dX3_mix_61 : decode cX3_mix 61 = .ok (.iastore, 1) := by decide +kernel
theorem dX3_mix_62 : decode cX3_mix 62 = .ok (.iinc 2 1, 3) := by decide +kernel
theorem dX3_mix_65 : decode cX3_mix 65 = .ok (.goto (-63), 3) := by decide +kernel
theorem dX3_mix_68 : decode cX3_mix 68 = .ok (.bipush 16, 2) := by decide +kernel
theorem dX3_mix_70 : decode cX3_mix 70 = .ok (.istore_n 2, 1) := by decide +kernel
theorem dX3_mix_71 : decode cX3_mix 71 = .ok (.iload_n 2, 1) := by decide +kernel
theorem dX3_mix_72 : decode cX3_mix 72 = .ok (.bipush 64, 2) := by decide +kernel
theorem dX3_mix_74 : decode cX3_mix 74 = .ok (.if_icmp .ge 102, 3) := by decide +kernel
theorem dX3_mix_77 : decode cX3_mix 77 = .ok (.aload_n 0, 1) := by decide +kernel
theorem dX3_mix_78 : decode cX3_mix 78 = .ok (.getfield 109, 3) := by decide +kernel
theorem dX3_mix_81 : decode cX3_mix 81 = .ok (.iload_n 2, 1) := by decide +kernel
theorem dX3_mix_82 : decode cX3_mix 82 = .ok (.bipush 15, 2) := by decide +kernel
theorem dX3_mix_84 : decode cX3_mix 84 = .ok (.isub, 1) := by decide +kernel
theorem dX3_mix_85 : decode cX3_mix 85 = .ok (.iaload, 1) := by decide +kernel
theorem dX3_mix_86 : decode cX3_mix 86 = .ok (.istore_n 3, 1) := by decide +kernel
theorem dX3_mix_87 : decode cX3_mix 87 = .ok (.aload_n 0, 1) := by decide +kernel
theorem dX3_mix_88 : decode cX3_mix 88 = .ok (.getfield 109, 3) := by decide +kernel
theorem dX3_mix_91 : decode cX3_mix 91 = .ok (.iload_n 2, 1) := by decide +kernel
theorem dX3_mix_92 : decode cX3_mix 92 = .ok (.iconst 2, 1) := by decide +kernel
theorem dX3_mix_93 : decode cX3_mix 93 = .ok (.isub, 1) := by decide +kernel
theorem dX3_mix_94 : decode cX3_mix 94 = .ok (.iaload, 1) := by decide +kernel
theorem dX3_mix_95 : decode cX3_mix 95 = .ok (.istore 4, 2) := by decide +kernel
theorem dX3_mix_97 : decode cX3_mix 97 = .ok (.iload_n 3, 1) := by decide +kernel
theorem dX3_mix_98 : decode cX3_mix 98 = .ok (.bipush 7, 2) := by decide +kernel
theorem dX3_mix_100 : decode cX3_mix 100 = .ok (.invokestatic 149, 3) := by decide +kernel
theorem dX3_mix_103 : decode cX3_mix 103 = .ok (.iload_n 3, 1) := by decide +kernel
theorem dX3_mix_104 : decode cX3_mix 104 = .ok (.bipush 18, 2) := by decide +kernel
theorem dX3_mix_106 : decode cX3_mix 106 = .ok (.invokestatic 149, 3) := by decide +kernel
theorem dX3_mix_109 : decode cX3_mix 109 = .ok (.ixor, 1) := by decide +kernel
theorem dX3_mix_110 : decode cX3_mix 110 = .ok (.iload_n 3, 1) := by decide +kernel
theorem dX3_mix_111 : decode cX3_mix 111 = .ok (.iconst 3, 1) := by decide +kernel
theorem dX3_mix_112 : decode cX3_mix 112 = .ok (.iushr, 1) := by decide +kernel
theorem dX3_mix_113 : decode cX3_mix 113 = .ok (.ixor, 1) := by decide +kernel
theorem dX3_mix_114 : decode cX3_mix 114 = .ok (.istore 5, 2) := by decide +kernel
theorem dX3_mix_116 : decode cX3_mix 116 = .ok (.iload 4, 2) := by decide +kernel
theorem dX3_mix_118 : decode cX3_mix 118 = .ok (.bipush 17, 2) := by decide +kernel
theorem dX3_mix_120 : decode cX3_mix 120 = .ok (.invokestatic 149, 3) := by decide +kernel
theorem dX3_mix_123 : decode cX3_mix 123 = .ok (.iload 4, 2) := by decide +kernel
theorem dX3_mix_125 : decode cX3_mix 125 = .ok (.bipush 19, 2) := by decide +kernel
theorem dX3_mix_127 : decode cX3_mix 127 = .ok (.invokestatic 149, 3) := by decide +kernel
