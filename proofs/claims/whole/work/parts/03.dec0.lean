theorem dX0_init_0 : decode cX0_init 0 = .ok (.aload_n 0, 1) := by decide +kernel
theorem dX0_init_1 : decode cX0_init 1 = .ok (.invokespecial 3, 3) := by decide +kernel
theorem dX0_init_4 : decode cX0_init 4 = .ok (.aload_n 0, 1) := by decide +kernel
theorem dX0_init_5 : decode cX0_init 5 = .ok (.bipush 8, 2) := by decide +kernel
theorem dX0_init_7 : decode cX0_init 7 = .ok (.newarray .int, 2) := by decide +kernel
theorem dX0_init_9 : decode cX0_init 9 = .ok (.putfield 9, 3) := by decide +kernel
theorem dX0_init_12 : decode cX0_init 12 = .ok (.aload_n 0, 1) := by decide +kernel
theorem dX0_init_13 : decode cX0_init 13 = .ok (.bipush 64, 2) := by decide +kernel
theorem dX0_init_15 : decode cX0_init 15 = .ok (.newarray .int, 2) := by decide +kernel
theorem dX0_init_17 : decode cX0_init 17 = .ok (.putfield 15, 3) := by decide +kernel
theorem dX0_init_20 : decode cX0_init 20 = .ok (.return_, 1) := by decide +kernel
theorem dX0_begin_0 : decode cX0_begin 0 = .ok (.getstatic 18, 3) := by decide +kernel
theorem dX0_begin_3 : decode cX0_begin 3 = .ok (.iconst 0, 1) := by decide +kernel
theorem dX0_begin_4 : decode cX0_begin 4 = .ok (.aload_n 0, 1) := by decide +kernel
theorem dX0_begin_5 : decode cX0_begin 5 = .ok (.getfield 9, 3) := by decide +kernel
theorem dX0_begin_8 : decode cX0_begin 8 = .ok (.iconst 0, 1) := by decide +kernel
theorem dX0_begin_9 : decode cX0_begin 9 = .ok (.bipush 8, 2) := by decide +kernel
theorem dX0_begin_11 : decode cX0_begin 11 = .ok (.invokestatic 21, 3) := by decide +kernel
theorem dX0_begin_14 : decode cX0_begin 14 = .ok (.aload_n 0, 1) := by decide +kernel
theorem dX0_begin_15 : decode cX0_begin 15 = .ok (.iconst 0, 1) := by decide +kernel
theorem dX0_begin_16 : decode cX0_begin 16 = .ok (.putfield 27, 3) := by decide +kernel
theorem dX0_begin_19 : decode cX0_begin 19 = .ok (.return_, 1) := by decide +kernel
set_option maxRecDepth 20000 in
theorem ggX0_addByte_X0_spreadWords : GoodIn wsX0_addByte wsX0_spreadWords := goodIn_r _ [7, 2, 14, 15, 16] (by decide +kernel) (by decide +kernel)
set_option maxRecDepth 20000 in
theorem gX0_addByte_X0_spreadWords : GoodIn wsX0_addByte (wsV RX0 31 RX0 yX0_spreadWords wsX0_spreadWords) := goodIn_app (goodIn_of _ (by decide +kernel)) ggX0_addByte_X0_spreadWords
set_option maxRecDepth 20000 in
theorem ggX0_addByte_X0_mixBlock : GoodIn wsX0_addByte wsX0_mixBlock := goodIn_r _ [11, 12, 13, 2, 14, 15, 16] (by decide +kernel) (by decide +kernel)
set_option maxRecDepth 20000 in
theorem gX0_addByte_X0_mixBlock : GoodIn wsX0_addByte (wsV RX0 34 RX0 yX0_mixBlock wsX0_mixBlock) := goodIn_app (goodIn_of _ (by decide +kernel)) ggX0_addByte_X0_mixBlock
theorem dX0_addByte_0 : decode cX0_addByte 0 = .ok (.aload_n 0, 1) := by decide +kernel
theorem dX0_addByte_1 : decode cX0_addByte 1 = .ok (.getfield 27, 3) := by decide +kernel
theorem dX0_addByte_4 : decode cX0_addByte 4 = .ok (.bipush 63, 2) := by decide +kernel
theorem dX0_addByte_6 : decode cX0_addByte 6 = .ok (.iand, 1) := by decide +kernel
theorem dX0_addByte_7 : decode cX0_addByte 7 = .ok (.iconst 2, 1) := by decide +kernel
theorem dX0_addByte_8 : decode cX0_addByte 8 = .ok (.ishr, 1) := by decide +kernel
theorem dX0_addByte_9 : decode cX0_addByte 9 = .ok (.istore_n 2, 1) := by decide +kernel
theorem dX0_addByte_10 : decode cX0_addByte 10 = .ok (.aload_n 0, 1) := by decide +kernel
theorem dX0_addByte_11 : decode cX0_addByte 11 = .ok (.getfield 15, 3) := by decide +kernel
theorem dX0_addByte_14 : decode cX0_addByte 14 = .ok (.iload_n 2, 1) := by decide +kernel
theorem dX0_addByte_15 : decode cX0_addByte 15 = .ok (.aload_n 0, 1) := by decide +kernel
theorem dX0_addByte_16 : decode cX0_addByte 16 = .ok (.getfield 15, 3) := by decide +kernel
theorem dX0_addByte_19 : decode cX0_addByte 19 = .ok (.iload_n 2, 1) := by decide +kernel
theorem dX0_addByte_20 : decode cX0_addByte 20 = .ok (.iaload, 1) := by decide +kernel
theorem dX0_addByte_21 : decode cX0_addByte 21 = .ok (.bipush 8, 2) := by decide +kernel
theorem dX0_addByte_23 : decode cX0_addByte 23 = .ok (.ishl, 1) := by decide +kernel
theorem dX0_addByte_24 : decode cX0_addByte 24 = .ok (.iload_n 1, 1) := by decide +kernel
theorem dX0_addByte_25 : decode cX0_addByte 25 = .ok (.sipush 255, 3) := by decide +kernel
theorem dX0_addByte_28 : decode cX0_addByte 28 = .ok (.iand, 1) := by decide +kernel
theorem dX0_addByte_29 : decode cX0_addByte 29 = .ok (.ior, 1) := by decide +kernel
theorem dX0_addByte_30 : decode cX0_addByte 30 = .ok (.iastore, 1) := by decide +kernel
theorem dX0_addByte_31 : decode cX0_addByte 31 = .ok (.aload_n 0, 1) := by decide +kernel
theorem dX0_addByte_32 : decode cX0_addByte 32 = .ok (.dup, 1) := by decide +kernel
theorem dX0_addByte_33 : decode cX0_addByte 33 = .ok (.getfield 27, 3) := by decide +kernel
theorem dX0_addByte_36 : decode cX0_addByte 36 = .ok (.iconst 1, 1) := by decide +kernel
theorem dX0_addByte_37 : decode cX0_addByte 37 = .ok (.iadd, 1) := by decide +kernel
theorem dX0_addByte_38 : decode cX0_addByte 38 = .ok (.putfield 27, 3) := by decide +kernel
theorem dX0_addByte_41 : decode cX0_addByte 41 = .ok (.aload_n 0, 1) := by decide +kernel
theorem dX0_addByte_42 : decode cX0_addByte 42 = .ok (.getfield 27, 3) := by decide +kernel
theorem dX0_addByte_45 : decode cX0_addByte 45 = .ok (.bipush 63, 2) := by decide +kernel
theorem dX0_addByte_47 : decode cX0_addByte 47 = .ok (.iand, 1) := by decide +kernel
theorem dX0_addByte_48 : decode cX0_addByte 48 = .ok (.ifCond .ne 11, 3) := by decide +kernel
theorem dX0_addByte_51 : decode cX0_addByte 51 = .ok (.aload_n 0, 1) := by decide +kernel
theorem dX0_addByte_52 : decode cX0_addByte 52 = .ok (.invokevirtual 31, 3) := by decide +kernel
theorem dX0_addByte_55 : decode cX0_addByte 55 = .ok (.aload_n 0, 1) := by decide +kernel
theorem dX0_addByte_56 : decode cX0_addByte 56 = .ok (.invokevirtual 34, 3) := by decide +kernel
theorem dX0_addByte_59 : decode cX0_addByte 59 = .ok (.return_, 1) := by decide +kernel
set_option maxRecDepth 20000 in
theorem ggX0_addRow_X0_addByte : GoodIn wsX0_addRow wsX0_addByte := goodIn_r _ [5, 6, 7, 8, 9, 10, 4, 11, 12, 13, 14, 15, 16, 17, 18, 19, 20] (by decide +kernel) (by decide +kernel)
set_option maxRecDepth 20000 in
theorem gX0_addRow_X0_addByte : GoodIn wsX0_addRow (wsV RX0 37 RX0 yX0_addByte wsX0_addByte) := goodIn_app (goodIn_of _ (by decide +kernel)) ggX0_addRow_X0_addByte
theorem dX0_addRow_0 : decode cX0_addRow 0 = .ok (.iconst 0, 1) := by decide +kernel
theorem dX0_addRow_1 : decode cX0_addRow 1 = .ok (.istore 4, 2) := by decide +kernel
theorem dX0_addRow_3 : decode cX0_addRow 3 = .ok (.iload 4, 2) := by decide +kernel
theorem dX0_addRow_5 : decode cX0_addRow 5 = .ok (.iload_n 3, 1) := by decide +kernel
theorem dX0_addRow_6 : decode cX0_addRow 6 = .ok (.if_icmp .ge 19, 3) := by decide +kernel
theorem dX0_addRow_9 : decode cX0_addRow 9 = .ok (.aload_n 0, 1) := by decide +kernel
theorem dX0_addRow_10 : decode cX0_addRow 10 = .ok (.aload_n 1, 1) := by decide +kernel
theorem dX0_addRow_11 : decode cX0_addRow 11 = .ok (.iload_n 2, 1) := by decide +kernel
theorem dX0_addRow_12 : decode cX0_addRow 12 = .ok (.iload 4, 2) := by decide +kernel
theorem dX0_addRow_14 : decode cX0_addRow 14 = .ok (.iadd, 1) := by decide +kernel
theorem dX0_addRow_15 : decode cX0_addRow 15 = .ok (.iaload, 1) := by decide +kernel
theorem dX0_addRow_16 : decode cX0_addRow 16 = .ok (.invokevirtual 37, 3) := by decide +kernel
theorem dX0_addRow_19 : decode cX0_addRow 19 = .ok (.iinc 4 1, 3) := by decide +kernel
theorem dX0_addRow_22 : decode cX0_addRow 22 = .ok (.goto (-19), 3) := by decide +kernel
theorem dX0_addRow_25 : decode cX0_addRow 25 = .ok (.return_, 1) := by decide +kernel
set_option maxRecDepth 20000 in
theorem ggX0_finish_X0_addByte : GoodIn wsX0_finish wsX0_addByte := goodIn_r _ [7, 2, 8, 9, 10, 11, 6, 12, 13, 14, 15, 16, 17, 18, 19, 20, 21] (by decide +kernel) (by decide +kernel)
set_option maxRecDepth 20000 in
theorem gX0_finish_X0_addByte : GoodIn wsX0_finish (wsV RX0 37 RX0 yX0_addByte wsX0_addByte) := goodIn_app (goodIn_of _ (by decide +kernel)) ggX0_finish_X0_addByte
theorem dX0_finish_0 : decode cX0_finish 0 = .ok (.ldc2_w 41, 3) := by decide +kernel
theorem dX0_finish_3 : decode cX0_finish 3 = .ok (.aload_n 0, 1) := by decide +kernel
theorem dX0_finish_4 : decode cX0_finish 4 = .ok (.getfield 27, 3) := by decide +kernel
theorem dX0_finish_7 : decode cX0_finish 7 = .ok (.i2l, 1) := by decide +kernel
theorem dX0_finish_8 : decode cX0_finish 8 = .ok (.lmul, 1) := by decide +kernel
theorem dX0_finish_9 : decode cX0_finish 9 = .ok (.lstore_n 1, 1) := by decide +kernel
theorem dX0_finish_10 : decode cX0_finish 10 = .ok (.aload_n 0, 1) := by decide +kernel
theorem dX0_finish_11 : decode cX0_finish 11 = .ok (.sipush 128, 3) := by decide +kernel
theorem dX0_finish_14 : decode cX0_finish 14 = .ok (.invokevirtual 37, 3) := by decide +kernel
theorem dX0_finish_17 : decode cX0_finish 17 = .ok (.bipush 56, 2) := by decide +kernel
theorem dX0_finish_19 : decode cX0_finish 19 = .ok (.aload_n 0, 1) := by decide +kernel
theorem dX0_finish_20 : decode cX0_finish 20 = .ok (.getfield 27, 3) := by decide +kernel
theorem dX0_finish_23 : decode cX0_finish 23 = .ok (.isub, 1) := by decide +kernel
theorem dX0_finish_24 : decode cX0_finish 24 = .ok (.bipush 63, 2) := by decide +kernel
theorem dX0_finish_26 : decode cX0_finish 26 = .ok (.iand, 1) := by decide +kernel
theorem dX0_finish_27 : decode cX0_finish 27 = .ok (.istore_n 3, 1) := by decide +kernel
theorem dX0_finish_28 : decode cX0_finish 28 = .ok (.iconst 0, 1) := by decide +kernel
theorem dX0_finish_29 : decode cX0_finish 29 = .ok (.istore 4, 2) := by decide +kernel
theorem dX0_finish_31 : decode cX0_finish 31 = .ok (.iload 4, 2) := by decide +kernel
theorem dX0_finish_33 : decode cX0_finish 33 = .ok (.iload_n 3, 1) := by decide +kernel
theorem dX0_finish_34 : decode cX0_finish 34 = .ok (.if_icmp .ge 14, 3) := by decide +kernel
theorem dX0_finish_37 : decode cX0_finish 37 = .ok (.aload_n 0, 1) := by decide +kernel
theorem dX0_finish_38 : decode cX0_finish 38 = .ok (.iconst 0, 1) := by decide +kernel
theorem dX0_finish_39 : decode cX0_finish 39 = .ok (.invokevirtual 37, 3) := by decide +kernel
theorem dX0_finish_42 : decode cX0_finish 42 = .ok (.iinc 4 1, 3) := by decide +kernel
theorem dX0_finish_45 : decode cX0_finish 45 = .ok (.goto (-14), 3) := by decide +kernel
theorem dX0_finish_48 : decode cX0_finish 48 = .ok (.iconst 0, 1) := by decide +kernel
theorem dX0_finish_49 : decode cX0_finish 49 = .ok (.istore 4, 2) := by decide +kernel
theorem dX0_finish_51 : decode cX0_finish 51 = .ok (.iload 4, 2) := by decide +kernel
theorem dX0_finish_53 : decode cX0_finish 53 = .ok (.bipush 8, 2) := by decide +kernel
theorem dX0_finish_55 : decode cX0_finish 55 = .ok (.if_icmp .ge 24, 3) := by decide +kernel
theorem dX0_finish_58 : decode cX0_finish 58 = .ok (.aload_n 0, 1) := by decide +kernel
theorem dX0_finish_59 : decode cX0_finish 59 = .ok (.lload_n 1, 1) := by decide +kernel
theorem dX0_finish_60 : decode cX0_finish 60 = .ok (.bipush 56, 2) := by decide +kernel
theorem dX0_finish_62 : decode cX0_finish 62 = .ok (.bipush 8, 2) := by decide +kernel
theorem dX0_finish_64 : decode cX0_finish 64 = .ok (.iload 4, 2) := by decide +kernel
theorem dX0_finish_66 : decode cX0_finish 66 = .ok (.imul, 1) := by decide +kernel
theorem dX0_finish_67 : decode cX0_finish 67 = .ok (.isub, 1) := by decide +kernel
theorem dX0_finish_68 : decode cX0_finish 68 = .ok (.lushr, 1) := by decide +kernel
theorem dX0_finish_69 : decode cX0_finish 69 = .ok (.l2i, 1) := by decide +kernel
theorem dX0_finish_70 : decode cX0_finish 70 = .ok (.invokevirtual 37, 3) := by decide +kernel
theorem dX0_finish_73 : decode cX0_finish 73 = .ok (.iinc 4 1, 3) := by decide +kernel
theorem dX0_finish_76 : decode cX0_finish 76 = .ok (.goto (-25), 3) := by decide +kernel
theorem dX0_finish_79 : decode cX0_finish 79 = .ok (.return_, 1) := by decide +kernel
theorem dX0_resultByte_0 : decode cX0_resultByte 0 = .ok (.aload_n 0, 1) := by decide +kernel
theorem dX0_resultByte_1 : decode cX0_resultByte 1 = .ok (.getfield 9, 3) := by decide +kernel
theorem dX0_resultByte_4 : decode cX0_resultByte 4 = .ok (.iload_n 1, 1) := by decide +kernel
theorem dX0_resultByte_5 : decode cX0_resultByte 5 = .ok (.iconst 2, 1) := by decide +kernel
theorem dX0_resultByte_6 : decode cX0_resultByte 6 = .ok (.ishr, 1) := by decide +kernel
theorem dX0_resultByte_7 : decode cX0_resultByte 7 = .ok (.bipush 7, 2) := by decide +kernel
theorem dX0_resultByte_9 : decode cX0_resultByte 9 = .ok (.iand, 1) := by decide +kernel
theorem dX0_resultByte_10 : decode cX0_resultByte 10 = .ok (.iaload, 1) := by decide +kernel
theorem dX0_resultByte_11 : decode cX0_resultByte 11 = .ok (.bipush 24, 2) := by decide +kernel
theorem dX0_resultByte_13 : decode cX0_resultByte 13 = .ok (.bipush 8, 2) := by decide +kernel
theorem dX0_resultByte_15 : decode cX0_resultByte 15 = .ok (.iload_n 1, 1) := by decide +kernel
theorem dX0_resultByte_16 : decode cX0_resultByte 16 = .ok (.iconst 3, 1) := by decide +kernel
theorem dX0_resultByte_17 : decode cX0_resultByte 17 = .ok (.iand, 1) := by decide +kernel
theorem dX0_resultByte_18 : decode cX0_resultByte 18 = .ok (.imul, 1) := by decide +kernel
theorem dX0_resultByte_19 : decode cX0_resultByte 19 = .ok (.isub, 1) := by decide +kernel
theorem dX0_resultByte_20 : decode cX0_resultByte 20 = .ok (.iushr, 1) := by decide +kernel
theorem dX0_resultByte_21 : decode cX0_resultByte 21 = .ok (.sipush 255, 3) := by decide +kernel
theorem dX0_resultByte_24 : decode cX0_resultByte 24 = .ok (.iand, 1) := by decide +kernel
theorem dX0_resultByte_25 : decode cX0_resultByte 25 = .ok (.ireturn, 1) := by decide +kernel
set_option maxRecDepth 20000 in
theorem ggX0_resultIsAt_X0_resultByte : GoodIn wsX0_resultIsAt wsX0_resultByte := goodIn_r _ [5, 6, 7, 8, 9] (by decide +kernel) (by decide +kernel)
set_option maxRecDepth 20000 in
theorem gX0_resultIsAt_X0_resultByte : GoodIn wsX0_resultIsAt (wsV RX0 43 RX0 yX0_resultByte wsX0_resultByte) := goodIn_app (goodIn_of _ (by decide +kernel)) ggX0_resultIsAt_X0_resultByte
theorem dX0_resultIsAt_0 : decode cX0_resultIsAt 0 = .ok (.iconst 0, 1) := by decide +kernel
theorem dX0_resultIsAt_1 : decode cX0_resultIsAt 1 = .ok (.istore_n 3, 1) := by decide +kernel
theorem dX0_resultIsAt_2 : decode cX0_resultIsAt 2 = .ok (.iload_n 3, 1) := by decide +kernel
theorem dX0_resultIsAt_3 : decode cX0_resultIsAt 3 = .ok (.bipush 32, 2) := by decide +kernel
theorem dX0_resultIsAt_5 : decode cX0_resultIsAt 5 = .ok (.if_icmp .ge 24, 3) := by decide +kernel
theorem dX0_resultIsAt_8 : decode cX0_resultIsAt 8 = .ok (.aload_n 1, 1) := by decide +kernel
theorem dX0_resultIsAt_9 : decode cX0_resultIsAt 9 = .ok (.iload_n 2, 1) := by decide +kernel
theorem dX0_resultIsAt_10 : decode cX0_resultIsAt 10 = .ok (.iload_n 3, 1) := by decide +kernel
theorem dX0_resultIsAt_11 : decode cX0_resultIsAt 11 = .ok (.iadd, 1) := by decide +kernel
theorem dX0_resultIsAt_12 : decode cX0_resultIsAt 12 = .ok (.iaload, 1) := by decide +kernel
theorem dX0_resultIsAt_13 : decode cX0_resultIsAt 13 = .ok (.aload_n 0, 1) := by decide +kernel
theorem dX0_resultIsAt_14 : decode cX0_resultIsAt 14 = .ok (.iload_n 3, 1) := by decide +kernel
theorem dX0_resultIsAt_15 : decode cX0_resultIsAt 15 = .ok (.invokevirtual 43, 3) := by decide +kernel
theorem dX0_resultIsAt_18 : decode cX0_resultIsAt 18 = .ok (.if_icmp .eq 5, 3) := by decide +kernel
theorem dX0_resultIsAt_21 : decode cX0_resultIsAt 21 = .ok (.iconst 0, 1) := by decide +kernel
theorem dX0_resultIsAt_22 : decode cX0_resultIsAt 22 = .ok (.ireturn, 1) := by decide +kernel
theorem dX0_resultIsAt_23 : decode cX0_resultIsAt 23 = .ok (.iinc 3 1, 3) := by decide +kernel
theorem dX0_resultIsAt_26 : decode cX0_resultIsAt 26 = .ok (.goto (-24), 3) := by decide +kernel
theorem dX0_resultIsAt_29 : decode cX0_resultIsAt 29 = .ok (.iconst 1, 1) := by decide +kernel
theorem dX0_resultIsAt_30 : decode cX0_resultIsAt 30 = .ok (.ireturn, 1) := by decide +kernel
set_option maxRecDepth 20000 in
theorem ggX0_copyResult_X0_resultByte : GoodIn wsX0_copyResult wsX0_resultByte := goodIn_r _ [5, 6, 7, 8, 9] (by decide +kernel) (by decide +kernel)
set_option maxRecDepth 20000 in
theorem gX0_copyResult_X0_resultByte : GoodIn wsX0_copyResult (wsV RX0 43 RX0 yX0_resultByte wsX0_resultByte) := goodIn_app (goodIn_of _ (by decide +kernel)) ggX0_copyResult_X0_resultByte
theorem dX0_copyResult_0 : decode cX0_copyResult 0 = .ok (.iconst 0, 1) := by decide +kernel
theorem dX0_copyResult_1 : decode cX0_copyResult 1 = .ok (.istore_n 3, 1) := by decide +kernel
theorem dX0_copyResult_2 : decode cX0_copyResult 2 = .ok (.iload_n 3, 1) := by decide +kernel
theorem dX0_copyResult_3 : decode cX0_copyResult 3 = .ok (.bipush 32, 2) := by decide +kernel
theorem dX0_copyResult_5 : decode cX0_copyResult 5 = .ok (.if_icmp .ge 19, 3) := by decide +kernel
theorem dX0_copyResult_8 : decode cX0_copyResult 8 = .ok (.aload_n 1, 1) := by decide +kernel
theorem dX0_copyResult_9 : decode cX0_copyResult 9 = .ok (.iload_n 2, 1) := by decide +kernel
theorem dX0_copyResult_10 : decode cX0_copyResult 10 = .ok (.iload_n 3, 1) := by decide +kernel
theorem dX0_copyResult_11 : decode cX0_copyResult 11 = .ok (.iadd, 1) := by decide +kernel
theorem dX0_copyResult_12 : decode cX0_copyResult 12 = .ok (.aload_n 0, 1) := by decide +kernel
theorem dX0_copyResult_13 : decode cX0_copyResult 13 = .ok (.iload_n 3, 1) := by decide +kernel
theorem dX0_copyResult_14 : decode cX0_copyResult 14 = .ok (.invokevirtual 43, 3) := by decide +kernel
theorem dX0_copyResult_17 : decode cX0_copyResult 17 = .ok (.iastore, 1) := by decide +kernel
theorem dX0_copyResult_18 : decode cX0_copyResult 18 = .ok (.iinc 3 1, 3) := by decide +kernel
theorem dX0_copyResult_21 : decode cX0_copyResult 21 = .ok (.goto (-19), 3) := by decide +kernel
theorem dX0_copyResult_24 : decode cX0_copyResult 24 = .ok (.return_, 1) := by decide +kernel
theorem dX0_spreadWords_0 : decode cX0_spreadWords 0 = .ok (.bipush 16, 2) := by decide +kernel
theorem dX0_spreadWords_2 : decode cX0_spreadWords 2 = .ok (.istore_n 1, 1) := by decide +kernel
theorem dX0_spreadWords_3 : decode cX0_spreadWords 3 = .ok (.iload_n 1, 1) := by decide +kernel
theorem dX0_spreadWords_4 : decode cX0_spreadWords 4 = .ok (.bipush 64, 2) := by decide +kernel
theorem dX0_spreadWords_6 : decode cX0_spreadWords 6 = .ok (.if_icmp .ge 110, 3) := by decide +kernel
theorem dX0_spreadWords_9 : decode cX0_spreadWords 9 = .ok (.aload_n 0, 1) := by decide +kernel
theorem dX0_spreadWords_10 : decode cX0_spreadWords 10 = .ok (.getfield 15, 3) := by decide +kernel
theorem dX0_spreadWords_13 : decode cX0_spreadWords 13 = .ok (.iload_n 1, 1) := by decide +kernel
theorem dX0_spreadWords_14 : decode cX0_spreadWords 14 = .ok (.bipush 15, 2) := by decide +kernel
theorem dX0_spreadWords_16 : decode cX0_spreadWords 16 = .ok (.isub, 1) := by decide +kernel
theorem dX0_spreadWords_17 : decode cX0_spreadWords 17 = .ok (.iaload, 1) := by decide +kernel
theorem dX0_spreadWords_18 : decode cX0_spreadWords 18 = .ok (.istore_n 2, 1) := by decide +kernel
theorem dX0_spreadWords_19 : decode cX0_spreadWords 19 = .ok (.aload_n 0, 1) := by decide +kernel
theorem dX0_spreadWords_20 : decode cX0_spreadWords 20 = .ok (.getfield 15, 3) := by decide +kernel
theorem dX0_spreadWords_23 : decode cX0_spreadWords 23 = .ok (.iload_n 1, 1) := by decide +kernel
theorem dX0_spreadWords_24 : decode cX0_spreadWords 24 = .ok (.iconst 2, 1) := by decide +kernel
theorem dX0_spreadWords_25 : decode cX0_spreadWords 25 = .ok (.isub, 1) := by decide +kernel
theorem dX0_spreadWords_26 : decode cX0_spreadWords 26 = .ok (.iaload, 1) := by decide +kernel
theorem dX0_spreadWords_27 : decode cX0_spreadWords 27 = .ok (.istore_n 3, 1) := by decide +kernel
theorem dX0_spreadWords_28 : decode cX0_spreadWords 28 = .ok (.iload_n 2, 1) := by decide +kernel
theorem dX0_spreadWords_29 : decode cX0_spreadWords 29 = .ok (.bipush 7, 2) := by decide +kernel
theorem dX0_spreadWords_31 : decode cX0_spreadWords 31 = .ok (.iushr, 1) := by decide +kernel
theorem dX0_spreadWords_32 : decode cX0_spreadWords 32 = .ok (.iload_n 2, 1) := by decide +kernel
theorem dX0_spreadWords_33 : decode cX0_spreadWords 33 = .ok (.bipush 25, 2) := by decide +kernel
theorem dX0_spreadWords_35 : decode cX0_spreadWords 35 = .ok (.ishl, 1) := by decide +kernel
theorem dX0_spreadWords_36 : decode cX0_spreadWords 36 = .ok (.ior, 1) := by decide +kernel
theorem dX0_spreadWords_37 : decode cX0_spreadWords 37 = .ok (.iload_n 2, 1) := by decide +kernel
theorem dX0_spreadWords_38 : decode cX0_spreadWords 38 = .ok (.bipush 18, 2) := by decide +kernel
theorem dX0_spreadWords_40 : decode cX0_spreadWords 40 = .ok (.iushr, 1) := by decide +kernel
theorem dX0_spreadWords_41 : decode cX0_spreadWords 41 = .ok (.iload_n 2, 1) := by decide +kernel
theorem dX0_spreadWords_42 : decode cX0_spreadWords 42 = .ok (.bipush 14, 2) := by decide +kernel
theorem dX0_spreadWords_44 : decode cX0_spreadWords 44 = .ok (.ishl, 1) := by decide +kernel
theorem dX0_spreadWords_45 : decode cX0_spreadWords 45 = .ok (.ior, 1) := by decide +kernel
theorem dX0_spreadWords_46 : decode cX0_spreadWords 46 = .ok (.ixor, 1) := by decide +kernel
theorem dX0_spreadWords_47 : decode cX0_spreadWords 47 = .ok (.iload_n 2, 1) := by decide +kernel
theorem dX0_spreadWords_48 : decode cX0_spreadWords 48 = .ok (.iconst 3, 1) := by decide +kernel
theorem dX0_spreadWords_49 : decode cX0_spreadWords 49 = .ok (.iushr, 1) := by decide +kernel
theorem dX0_spreadWords_50 : decode cX0_spreadWords 50 = .ok (.ixor, 1) := by decide +kernel
theorem dX0_spreadWords_51 : decode cX0_spreadWords 51 = .ok (.istore 4, 2) := by decide +kernel
theorem dX0_spreadWords_53 : decode cX0_spreadWords 53 = .ok (.iload_n 3, 1) := by decide +kernel
theorem dX0_spreadWords_54 : decode cX0_spreadWords 54 = .ok (.bipush 17, 2) := by decide +kernel
theorem dX0_spreadWords_56 : decode cX0_spreadWords 56 = .ok (.iushr, 1) := by decide +kernel
theorem dX0_spreadWords_57 : decode cX0_spreadWords 57 = .ok (.iload_n 3, 1) := by decide +kernel
theorem dX0_spreadWords_58 : decode cX0_spreadWords 58 = .ok (.bipush 15, 2) := by decide +kernel
theorem dX0_spreadWords_60 : decode cX0_spreadWords 60 = .ok (.ishl, 1) := by decide +kernel
theorem dX0_spreadWords_61 : decode cX0_spreadWords 61 = .ok (.ior, 1) := by decide +kernel
theorem dX0_spreadWords_62 : decode cX0_spreadWords 62 = .ok (.iload_n 3, 1) := by decide +kernel
theorem dX0_spreadWords_63 : decode cX0_spreadWords 63 = .ok (.bipush 19, 2) := by decide +kernel
theorem dX0_spreadWords_65 : decode cX0_spreadWords 65 = .ok (.iushr, 1) := by decide +kernel
theorem dX0_spreadWords_66 : decode cX0_spreadWords 66 = .ok (.iload_n 3, 1) := by decide +kernel
theorem dX0_spreadWords_67 : decode cX0_spreadWords 67 = .ok (.bipush 13, 2) := by decide +kernel
theorem dX0_spreadWords_69 : decode cX0_spreadWords 69 = .ok (.ishl, 1) := by decide +kernel
theorem dX0_spreadWords_70 : decode cX0_spreadWords 70 = .ok (.ior, 1) := by decide +kernel
theorem dX0_spreadWords_71 : decode cX0_spreadWords 71 = .ok (.ixor, 1) := by decide +kernel
theorem dX0_spreadWords_72 : decode cX0_spreadWords 72 = .ok (.iload_n 3, 1) := by decide +kernel
theorem dX0_spreadWords_73 : decode cX0_spreadWords 73 = .ok (.bipush 10, 2) := by decide +kernel
theorem dX0_spreadWords_75 : decode cX0_spreadWords 75 = .ok (.iushr, 1) := by decide +kernel
theorem dX0_spreadWords_76 : decode cX0_spreadWords 76 = .ok (.ixor, 1) := by decide +kernel
theorem dX0_spreadWords_77 : decode cX0_spreadWords 77 = .ok (.istore 5, 2) := by decide +kernel
theorem dX0_spreadWords_79 : decode cX0_spreadWords 79 = .ok (.aload_n 0, 1) := by decide +kernel
theorem dX0_spreadWords_80 : decode cX0_spreadWords 80 = .ok (.getfield 15, 3) := by decide +kernel
theorem dX0_spreadWords_83 : decode cX0_spreadWords 83 = .ok (.iload_n 1, 1) := by decide +kernel
theorem dX0_spreadWords_84 : decode cX0_spreadWords 84 = .ok (.aload_n 0, 1) := by decide +kernel
theorem dX0_spreadWords_85 : decode cX0_spreadWords 85 = .ok (.getfield 15, 3) := by decide +kernel
theorem dX0_spreadWords_88 : decode cX0_spreadWords 88 = .ok (.iload_n 1, 1) := by decide +kernel
theorem dX0_spreadWords_89 : decode cX0_spreadWords 89 = .ok (.bipush 16, 2) := by decide +kernel
theorem dX0_spreadWords_91 : decode cX0_spreadWords 91 = .ok (.isub, 1) := by decide +kernel
theorem dX0_spreadWords_92 : decode cX0_spreadWords 92 = .ok (.iaload, 1) := by decide +kernel
theorem dX0_spreadWords_93 : decode cX0_spreadWords 93 = .ok (.iload 4, 2) := by decide +kernel
theorem dX0_spreadWords_95 : decode cX0_spreadWords 95 = .ok (.iadd, 1) := by decide +kernel
theorem dX0_spreadWords_96 : decode cX0_spreadWords 96 = .ok (.aload_n 0, 1) := by decide +kernel
theorem dX0_spreadWords_97 : decode cX0_spreadWords 97 = .ok (.getfield 15, 3) := by decide +kernel
theorem dX0_spreadWords_100 : decode cX0_spreadWords 100 = .ok (.iload_n 1, 1) := by decide +kernel
theorem dX0_spreadWords_101 : decode cX0_spreadWords 101 = .ok (.bipush 7, 2) := by decide +kernel
theorem dX0_spreadWords_103 : decode cX0_spreadWords 103 = .ok (.isub, 1) := by decide +kernel
theorem dX0_spreadWords_104 : decode cX0_spreadWords 104 = .ok (.iaload, 1) := by decide +kernel
theorem dX0_spreadWords_105 : decode cX0_spreadWords 105 = .ok (.iadd, 1) := by decide +kernel
theorem dX0_spreadWords_106 : decode cX0_spreadWords 106 = .ok (.iload 5, 2) := by decide +kernel
theorem dX0_spreadWords_108 : decode cX0_spreadWords 108 = .ok (.iadd, 1) := by decide +kernel
theorem dX0_spreadWords_109 : decode cX0_spreadWords 109 = .ok (.iastore, 1) := by decide +kernel
theorem dX0_spreadWords_110 : decode cX0_spreadWords 110 = .ok (.iinc 1 1, 3) := by decide +kernel
theorem dX0_spreadWords_113 : decode cX0_spreadWords 113 = .ok (.goto (-110), 3) := by decide +kernel
theorem dX0_spreadWords_116 : decode cX0_spreadWords 116 = .ok (.return_, 1) := by decide +kernel
theorem dX0_mixBlock_0 : decode cX0_mixBlock 0 = .ok (.aload_n 0, 1) := by decide +kernel
theorem dX0_mixBlock_1 : decode cX0_mixBlock 1 = .ok (.getfield 9, 3) := by decide +kernel
theorem dX0_mixBlock_4 : decode cX0_mixBlock 4 = .ok (.iconst 0, 1) := by decide +kernel
theorem dX0_mixBlock_5 : decode cX0_mixBlock 5 = .ok (.iaload, 1) := by decide +kernel
theorem dX0_mixBlock_6 : decode cX0_mixBlock 6 = .ok (.istore_n 1, 1) := by decide +kernel
theorem dX0_mixBlock_7 : decode cX0_mixBlock 7 = .ok (.aload_n 0, 1) := by decide +kernel
theorem dX0_mixBlock_8 : decode cX0_mixBlock 8 = .ok (.getfield 9, 3) := by decide +kernel
theorem dX0_mixBlock_11 : decode cX0_mixBlock 11 = .ok (.iconst 1, 1) := by decide +kernel
theorem dX0_mixBlock_12 : decode cX0_mixBlock 12 = .ok (.iaload, 1) := by decide +kernel
theorem dX0_mixBlock_13 : decode cX0_mixBlock 13 = .ok (.istore_n 2, 1) := by decide +kernel
theorem dX0_mixBlock_14 : decode cX0_mixBlock 14 = .ok (.aload_n 0, 1) := by decide +kernel
theorem dX0_mixBlock_15 : decode cX0_mixBlock 15 = .ok (.getfield 9, 3) := by decide +kernel
theorem dX0_mixBlock_18 : decode cX0_mixBlock 18 = .ok (.iconst 2, 1) := by decide +kernel
theorem dX0_mixBlock_19 : decode cX0_mixBlock 19 = .ok (.iaload, 1) := by decide +kernel
theorem dX0_mixBlock_20 : decode cX0_mixBlock 20 = .ok (.istore_n 3, 1) := by decide +kernel
theorem dX0_mixBlock_21 : decode cX0_mixBlock 21 = .ok (.aload_n 0, 1) := by decide +kernel
theorem dX0_mixBlock_22 : decode cX0_mixBlock 22 = .ok (.getfield 9, 3) := by decide +kernel
theorem dX0_mixBlock_25 : decode cX0_mixBlock 25 = .ok (.iconst 3, 1) := by decide +kernel
theorem dX0_mixBlock_26 : decode cX0_mixBlock 26 = .ok (.iaload, 1) := by decide +kernel
theorem dX0_mixBlock_27 : decode cX0_mixBlock 27 = .ok (.istore 4, 2) := by decide +kernel
theorem dX0_mixBlock_29 : decode cX0_mixBlock 29 = .ok (.aload_n 0, 1) := by decide +kernel
theorem dX0_mixBlock_30 : decode cX0_mixBlock 30 = .ok (.getfield 9, 3) := by decide +kernel
theorem dX0_mixBlock_33 : decode cX0_mixBlock 33 = .ok (.iconst 4, 1) := by decide +kernel
theorem dX0_mixBlock_34 : decode cX0_mixBlock 34 = .ok (.iaload, 1) := by decide +kernel
theorem dX0_mixBlock_35 : decode cX0_mixBlock 35 = .ok (.istore 5, 2) := by decide +kernel
theorem dX0_mixBlock_37 : decode cX0_mixBlock 37 = .ok (.aload_n 0, 1) := by decide +kernel
theorem dX0_mixBlock_38 : decode cX0_mixBlock 38 = .ok (.getfield 9, 3) := by decide +kernel
theorem dX0_mixBlock_41 : decode cX0_mixBlock 41 = .ok (.iconst 5, 1) := by decide +kernel
theorem dX0_mixBlock_42 : decode cX0_mixBlock 42 = .ok (.iaload, 1) := by decide +kernel
theorem dX0_mixBlock_43 : decode cX0_mixBlock 43 = .ok (.istore 6, 2) := by decide +kernel
theorem dX0_mixBlock_45 : decode cX0_mixBlock 45 = .ok (.aload_n 0, 1) := by decide +kernel
theorem dX0_mixBlock_46 : decode cX0_mixBlock 46 = .ok (.getfield 9, 3) := by decide +kernel
theorem dX0_mixBlock_49 : decode cX0_mixBlock 49 = .ok (.bipush 6, 2) := by decide +kernel
theorem dX0_mixBlock_51 : decode cX0_mixBlock 51 = .ok (.iaload, 1) := by decide +kernel
theorem dX0_mixBlock_52 : decode cX0_mixBlock 52 = .ok (.istore 7, 2) := by decide +kernel
theorem dX0_mixBlock_54 : decode cX0_mixBlock 54 = .ok (.aload_n 0, 1) := by decide +kernel
theorem dX0_mixBlock_55 : decode cX0_mixBlock 55 = .ok (.getfield 9, 3) := by decide +kernel
theorem dX0_mixBlock_58 : decode cX0_mixBlock 58 = .ok (.bipush 7, 2) := by decide +kernel
theorem dX0_mixBlock_60 : decode cX0_mixBlock 60 = .ok (.iaload, 1) := by decide +kernel
theorem dX0_mixBlock_61 : decode cX0_mixBlock 61 = .ok (.istore 8, 2) := by decide +kernel
theorem dX0_mixBlock_63 : decode cX0_mixBlock 63 = .ok (.iconst 0, 1) := by decide +kernel
theorem dX0_mixBlock_64 : decode cX0_mixBlock 64 = .ok (.istore 9, 2) := by decide +kernel
theorem dX0_mixBlock_66 : decode cX0_mixBlock 66 = .ok (.iload 9, 2) := by decide +kernel
theorem dX0_mixBlock_68 : decode cX0_mixBlock 68 = .ok (.bipush 64, 2) := by decide +kernel
theorem dX0_mixBlock_70 : decode cX0_mixBlock 70 = .ok (.if_icmp .ge 160, 3) := by decide +kernel
theorem dX0_mixBlock_73 : decode cX0_mixBlock 73 = .ok (.iload 5, 2) := by decide +kernel
theorem dX0_mixBlock_75 : decode cX0_mixBlock 75 = .ok (.bipush 6, 2) := by decide +kernel
theorem dX0_mixBlock_77 : decode cX0_mixBlock 77 = .ok (.iushr, 1) := by decide +kernel
theorem dX0_mixBlock_78 : decode cX0_mixBlock 78 = .ok (.iload 5, 2) := by decide +kernel
theorem dX0_mixBlock_80 : decode cX0_mixBlock 80 = .ok (.bipush 26, 2) := by decide +kernel
theorem dX0_mixBlock_82 : decode cX0_mixBlock 82 = .ok (.ishl, 1) := by decide +kernel
theorem dX0_mixBlock_83 : decode cX0_mixBlock 83 = .ok (.ior, 1) := by decide +kernel
theorem dX0_mixBlock_84 : decode cX0_mixBlock 84 = .ok (.iload 5, 2) := by decide +kernel
theorem dX0_mixBlock_86 : decode cX0_mixBlock 86 = .ok (.bipush 11, 2) := by decide +kernel
theorem dX0_mixBlock_88 : decode cX0_mixBlock 88 = .ok (.iushr, 1) := by decide +kernel
theorem dX0_mixBlock_89 : decode cX0_mixBlock 89 = .ok (.iload 5, 2) := by decide +kernel
theorem dX0_mixBlock_91 : decode cX0_mixBlock 91 = .ok (.bipush 21, 2) := by decide +kernel
theorem dX0_mixBlock_93 : decode cX0_mixBlock 93 = .ok (.ishl, 1) := by decide +kernel
theorem dX0_mixBlock_94 : decode cX0_mixBlock 94 = .ok (.ior, 1) := by decide +kernel
theorem dX0_mixBlock_95 : decode cX0_mixBlock 95 = .ok (.ixor, 1) := by decide +kernel
theorem dX0_mixBlock_96 : decode cX0_mixBlock 96 = .ok (.iload 5, 2) := by decide +kernel
theorem dX0_mixBlock_98 : decode cX0_mixBlock 98 = .ok (.bipush 25, 2) := by decide +kernel
theorem dX0_mixBlock_100 : decode cX0_mixBlock 100 = .ok (.iushr, 1) := by decide +kernel
theorem dX0_mixBlock_101 : decode cX0_mixBlock 101 = .ok (.iload 5, 2) := by decide +kernel
theorem dX0_mixBlock_103 : decode cX0_mixBlock 103 = .ok (.bipush 7, 2) := by decide +kernel
theorem dX0_mixBlock_105 : decode cX0_mixBlock 105 = .ok (.ishl, 1) := by decide +kernel
theorem dX0_mixBlock_106 : decode cX0_mixBlock 106 = .ok (.ior, 1) := by decide +kernel
theorem dX0_mixBlock_107 : decode cX0_mixBlock 107 = .ok (.ixor, 1) := by decide +kernel
theorem dX0_mixBlock_108 : decode cX0_mixBlock 108 = .ok (.istore 10, 2) := by decide +kernel
theorem dX0_mixBlock_110 : decode cX0_mixBlock 110 = .ok (.iload_n 1, 1) := by decide +kernel
theorem dX0_mixBlock_111 : decode cX0_mixBlock 111 = .ok (.iconst 2, 1) := by decide +kernel
theorem dX0_mixBlock_112 : decode cX0_mixBlock 112 = .ok (.iushr, 1) := by decide +kernel
theorem dX0_mixBlock_113 : decode cX0_mixBlock 113 = .ok (.iload_n 1, 1) := by decide +kernel
theorem dX0_mixBlock_114 : decode cX0_mixBlock 114 = .ok (.bipush 30, 2) := by decide +kernel
theorem dX0_mixBlock_116 : decode cX0_mixBlock 116 = .ok (.ishl, 1) := by decide +kernel
theorem dX0_mixBlock_117 : decode cX0_mixBlock 117 = .ok (.ior, 1) := by decide +kernel
theorem dX0_mixBlock_118 : decode cX0_mixBlock 118 = .ok (.iload_n 1, 1) := by decide +kernel
theorem dX0_mixBlock_119 : decode cX0_mixBlock 119 = .ok (.bipush 13, 2) := by decide +kernel
theorem dX0_mixBlock_121 : decode cX0_mixBlock 121 = .ok (.iushr, 1) := by decide +kernel
theorem dX0_mixBlock_122 : decode cX0_mixBlock 122 = .ok (.iload_n 1, 1) := by decide +kernel
theorem dX0_mixBlock_123 : decode cX0_mixBlock 123 = .ok (.bipush 19, 2) := by decide +kernel
theorem dX0_mixBlock_125 : decode cX0_mixBlock 125 = .ok (.ishl, 1) := by decide +kernel
theorem dX0_mixBlock_126 : decode cX0_mixBlock 126 = .ok (.ior, 1) := by decide +kernel
theorem dX0_mixBlock_127 : decode cX0_mixBlock 127 = .ok (.ixor, 1) := by decide +kernel
theorem dX0_mixBlock_128 : decode cX0_mixBlock 128 = .ok (.iload_n 1, 1) := by decide +kernel
theorem dX0_mixBlock_129 : decode cX0_mixBlock 129 = .ok (.bipush 22, 2) := by decide +kernel
theorem dX0_mixBlock_131 : decode cX0_mixBlock 131 = .ok (.iushr, 1) := by decide +kernel
theorem dX0_mixBlock_132 : decode cX0_mixBlock 132 = .ok (.iload_n 1, 1) := by decide +kernel
theorem dX0_mixBlock_133 : decode cX0_mixBlock 133 = .ok (.bipush 10, 2) := by decide +kernel
theorem dX0_mixBlock_135 : decode cX0_mixBlock 135 = .ok (.ishl, 1) := by decide +kernel
theorem dX0_mixBlock_136 : decode cX0_mixBlock 136 = .ok (.ior, 1) := by decide +kernel
theorem dX0_mixBlock_137 : decode cX0_mixBlock 137 = .ok (.ixor, 1) := by decide +kernel
theorem dX0_mixBlock_138 : decode cX0_mixBlock 138 = .ok (.istore 11, 2) := by decide +kernel
theorem dX0_mixBlock_140 : decode cX0_mixBlock 140 = .ok (.iload 8, 2) := by decide +kernel
theorem dX0_mixBlock_142 : decode cX0_mixBlock 142 = .ok (.iload 10, 2) := by decide +kernel
theorem dX0_mixBlock_144 : decode cX0_mixBlock 144 = .ok (.iadd, 1) := by decide +kernel
theorem dX0_mixBlock_145 : decode cX0_mixBlock 145 = .ok (.iload 5, 2) := by decide +kernel
theorem dX0_mixBlock_147 : decode cX0_mixBlock 147 = .ok (.iload 6, 2) := by decide +kernel
theorem dX0_mixBlock_149 : decode cX0_mixBlock 149 = .ok (.iand, 1) := by decide +kernel
theorem dX0_mixBlock_150 : decode cX0_mixBlock 150 = .ok (.iload 5, 2) := by decide +kernel
theorem dX0_mixBlock_152 : decode cX0_mixBlock 152 = .ok (.iconst (-1), 1) := by decide +kernel
theorem dX0_mixBlock_153 : decode cX0_mixBlock 153 = .ok (.ixor, 1) := by decide +kernel
theorem dX0_mixBlock_154 : decode cX0_mixBlock 154 = .ok (.iload 7, 2) := by decide +kernel
theorem dX0_mixBlock_156 : decode cX0_mixBlock 156 = .ok (.iand, 1) := by decide +kernel
theorem dX0_mixBlock_157 : decode cX0_mixBlock 157 = .ok (.ixor, 1) := by decide +kernel
theorem dX0_mixBlock_158 : decode cX0_mixBlock 158 = .ok (.iadd, 1) := by decide +kernel
theorem dX0_mixBlock_159 : decode cX0_mixBlock 159 = .ok (.getstatic 47, 3) := by decide +kernel
theorem dX0_mixBlock_162 : decode cX0_mixBlock 162 = .ok (.iload 9, 2) := by decide +kernel
theorem dX0_mixBlock_164 : decode cX0_mixBlock 164 = .ok (.iaload, 1) := by decide +kernel
theorem dX0_mixBlock_165 : decode cX0_mixBlock 165 = .ok (.iadd, 1) := by decide +kernel
theorem dX0_mixBlock_166 : decode cX0_mixBlock 166 = .ok (.aload_n 0, 1) := by decide +kernel
theorem dX0_mixBlock_167 : decode cX0_mixBlock 167 = .ok (.getfield 15, 3) := by decide +kernel
theorem dX0_mixBlock_170 : decode cX0_mixBlock 170 = .ok (.iload 9, 2) := by decide +kernel
theorem dX0_mixBlock_172 : decode cX0_mixBlock 172 = .ok (.iaload, 1) := by decide +kernel
theorem dX0_mixBlock_173 : decode cX0_mixBlock 173 = .ok (.iadd, 1) := by decide +kernel
theorem dX0_mixBlock_174 : decode cX0_mixBlock 174 = .ok (.istore 12, 2) := by decide +kernel
theorem dX0_mixBlock_176 : decode cX0_mixBlock 176 = .ok (.iload 11, 2) := by decide +kernel
theorem dX0_mixBlock_178 : decode cX0_mixBlock 178 = .ok (.iload_n 1, 1) := by decide +kernel
theorem dX0_mixBlock_179 : decode cX0_mixBlock 179 = .ok (.iload_n 2, 1) := by decide +kernel
theorem dX0_mixBlock_180 : decode cX0_mixBlock 180 = .ok (.iand, 1) := by decide +kernel
theorem dX0_mixBlock_181 : decode cX0_mixBlock 181 = .ok (.iload_n 1, 1) := by decide +kernel
theorem dX0_mixBlock_182 : decode cX0_mixBlock 182 = .ok (.iload_n 3, 1) := by decide +kernel
theorem dX0_mixBlock_183 : decode cX0_mixBlock 183 = .ok (.iand, 1) := by decide +kernel
theorem dX0_mixBlock_184 : decode cX0_mixBlock 184 = .ok (.ixor, 1) := by decide +kernel
theorem dX0_mixBlock_185 : decode cX0_mixBlock 185 = .ok (.iload_n 2, 1) := by decide +kernel
theorem dX0_mixBlock_186 : decode cX0_mixBlock 186 = .ok (.iload_n 3, 1) := by decide +kernel
theorem dX0_mixBlock_187 : decode cX0_mixBlock 187 = .ok (.iand, 1) := by decide +kernel
theorem dX0_mixBlock_188 : decode cX0_mixBlock 188 = .ok (.ixor, 1) := by decide +kernel
theorem dX0_mixBlock_189 : decode cX0_mixBlock 189 = .ok (.iadd, 1) := by decide +kernel
theorem dX0_mixBlock_190 : decode cX0_mixBlock 190 = .ok (.istore 13, 2) := by decide +kernel
theorem dX0_mixBlock_192 : decode cX0_mixBlock 192 = .ok (.iload 7, 2) := by decide +kernel
theorem dX0_mixBlock_194 : decode cX0_mixBlock 194 = .ok (.istore 8, 2) := by decide +kernel
theorem dX0_mixBlock_196 : decode cX0_mixBlock 196 = .ok (.iload 6, 2) := by decide +kernel
theorem dX0_mixBlock_198 : decode cX0_mixBlock 198 = .ok (.istore 7, 2) := by decide +kernel
theorem dX0_mixBlock_200 : decode cX0_mixBlock 200 = .ok (.iload 5, 2) := by decide +kernel
theorem dX0_mixBlock_202 : decode cX0_mixBlock 202 = .ok (.istore 6, 2) := by decide +kernel
theorem dX0_mixBlock_204 : decode cX0_mixBlock 204 = .ok (.iload 4, 2) := by decide +kernel
theorem dX0_mixBlock_206 : decode cX0_mixBlock 206 = .ok (.iload 12, 2) := by decide +kernel
theorem dX0_mixBlock_208 : decode cX0_mixBlock 208 = .ok (.iadd, 1) := by decide +kernel
theorem dX0_mixBlock_209 : decode cX0_mixBlock 209 = .ok (.istore 5, 2) := by decide +kernel
theorem dX0_mixBlock_211 : decode cX0_mixBlock 211 = .ok (.iload_n 3, 1) := by decide +kernel
theorem dX0_mixBlock_212 : decode cX0_mixBlock 212 = .ok (.istore 4, 2) := by decide +kernel
theorem dX0_mixBlock_214 : decode cX0_mixBlock 214 = .ok (.iload_n 2, 1) := by decide +kernel
theorem dX0_mixBlock_215 : decode cX0_mixBlock 215 = .ok (.istore_n 3, 1) := by decide +kernel
theorem dX0_mixBlock_216 : decode cX0_mixBlock 216 = .ok (.iload_n 1, 1) := by decide +kernel
theorem dX0_mixBlock_217 : decode cX0_mixBlock 217 = .ok (.istore_n 2, 1) := by decide +kernel
theorem dX0_mixBlock_218 : decode cX0_mixBlock 218 = .ok (.iload 12, 2) := by decide +kernel
theorem dX0_mixBlock_220 : decode cX0_mixBlock 220 = .ok (.iload 13, 2) := by decide +kernel
theorem dX0_mixBlock_222 : decode cX0_mixBlock 222 = .ok (.iadd, 1) := by decide +kernel
theorem dX0_mixBlock_223 : decode cX0_mixBlock 223 = .ok (.istore_n 1, 1) := by decide +kernel
theorem dX0_mixBlock_224 : decode cX0_mixBlock 224 = .ok (.iinc 9 1, 3) := by decide +kernel
theorem dX0_mixBlock_227 : decode cX0_mixBlock 227 = .ok (.goto (-161), 3) := by decide +kernel
theorem dX0_mixBlock_230 : decode cX0_mixBlock 230 = .ok (.aload_n 0, 1) := by decide +kernel
theorem dX0_mixBlock_231 : decode cX0_mixBlock 231 = .ok (.getfield 9, 3) := by decide +kernel
theorem dX0_mixBlock_234 : decode cX0_mixBlock 234 = .ok (.iconst 0, 1) := by decide +kernel
theorem dX0_mixBlock_235 : decode cX0_mixBlock 235 = .ok (.dup2, 1) := by decide +kernel
theorem dX0_mixBlock_236 : decode cX0_mixBlock 236 = .ok (.iaload, 1) := by decide +kernel
theorem dX0_mixBlock_237 : decode cX0_mixBlock 237 = .ok (.iload_n 1, 1) := by decide +kernel
theorem dX0_mixBlock_238 : decode cX0_mixBlock 238 = .ok (.iadd, 1) := by decide +kernel
theorem dX0_mixBlock_239 : decode cX0_mixBlock 239 = .ok (.iastore, 1) := by decide +kernel
theorem dX0_mixBlock_240 : decode cX0_mixBlock 240 = .ok (.aload_n 0, 1) := by decide +kernel
theorem dX0_mixBlock_241 : decode cX0_mixBlock 241 = .ok (.getfield 9, 3) := by decide +kernel
theorem dX0_mixBlock_244 : decode cX0_mixBlock 244 = .ok (.iconst 1, 1) := by decide +kernel
theorem dX0_mixBlock_245 : decode cX0_mixBlock 245 = .ok (.dup2, 1) := by decide +kernel
theorem dX0_mixBlock_246 : decode cX0_mixBlock 246 = .ok (.iaload, 1) := by decide +kernel
theorem dX0_mixBlock_247 : decode cX0_mixBlock 247 = .ok (.iload_n 2, 1) := by decide +kernel
theorem dX0_mixBlock_248 : decode cX0_mixBlock 248 = .ok (.iadd, 1) := by decide +kernel
theorem dX0_mixBlock_249 : decode cX0_mixBlock 249 = .ok (.iastore, 1) := by decide +kernel
theorem dX0_mixBlock_250 : decode cX0_mixBlock 250 = .ok (.aload_n 0, 1) := by decide +kernel
theorem dX0_mixBlock_251 : decode cX0_mixBlock 251 = .ok (.getfield 9, 3) := by decide +kernel
theorem dX0_mixBlock_254 : decode cX0_mixBlock 254 = .ok (.iconst 2, 1) := by decide +kernel
theorem dX0_mixBlock_255 : decode cX0_mixBlock 255 = .ok (.dup2, 1) := by decide +kernel
theorem dX0_mixBlock_256 : decode cX0_mixBlock 256 = .ok (.iaload, 1) := by decide +kernel
theorem dX0_mixBlock_257 : decode cX0_mixBlock 257 = .ok (.iload_n 3, 1) := by decide +kernel
theorem dX0_mixBlock_258 : decode cX0_mixBlock 258 = .ok (.iadd, 1) := by decide +kernel
theorem dX0_mixBlock_259 : decode cX0_mixBlock 259 = .ok (.iastore, 1) := by decide +kernel
theorem dX0_mixBlock_260 : decode cX0_mixBlock 260 = .ok (.aload_n 0, 1) := by decide +kernel
theorem dX0_mixBlock_261 : decode cX0_mixBlock 261 = .ok (.getfield 9, 3) := by decide +kernel
theorem dX0_mixBlock_264 : decode cX0_mixBlock 264 = .ok (.iconst 3, 1) := by decide +kernel
theorem dX0_mixBlock_265 : decode cX0_mixBlock 265 = .ok (.dup2, 1) := by decide +kernel
theorem dX0_mixBlock_266 : decode cX0_mixBlock 266 = .ok (.iaload, 1) := by decide +kernel
theorem dX0_mixBlock_267 : decode cX0_mixBlock 267 = .ok (.iload 4, 2) := by decide +kernel
theorem dX0_mixBlock_269 : decode cX0_mixBlock 269 = .ok (.iadd, 1) := by decide +kernel
theorem dX0_mixBlock_270 : decode cX0_mixBlock 270 = .ok (.iastore, 1) := by decide +kernel
theorem dX0_mixBlock_271 : decode cX0_mixBlock 271 = .ok (.aload_n 0, 1) := by decide +kernel
theorem dX0_mixBlock_272 : decode cX0_mixBlock 272 = .ok (.getfield 9, 3) := by decide +kernel
theorem dX0_mixBlock_275 : decode cX0_mixBlock 275 = .ok (.iconst 4, 1) := by decide +kernel
theorem dX0_mixBlock_276 : decode cX0_mixBlock 276 = .ok (.dup2, 1) := by decide +kernel
theorem dX0_mixBlock_277 : decode cX0_mixBlock 277 = .ok (.iaload, 1) := by decide +kernel
theorem dX0_mixBlock_278 : decode cX0_mixBlock 278 = .ok (.iload 5, 2) := by decide +kernel
theorem dX0_mixBlock_280 : decode cX0_mixBlock 280 = .ok (.iadd, 1) := by decide +kernel
theorem dX0_mixBlock_281 : decode cX0_mixBlock 281 = .ok (.iastore, 1) := by decide +kernel
theorem dX0_mixBlock_282 : decode cX0_mixBlock 282 = .ok (.aload_n 0, 1) := by decide +kernel
theorem dX0_mixBlock_283 : decode cX0_mixBlock 283 = .ok (.getfield 9, 3) := by decide +kernel
theorem dX0_mixBlock_286 : decode cX0_mixBlock 286 = .ok (.iconst 5, 1) := by decide +kernel
theorem dX0_mixBlock_287 : decode cX0_mixBlock 287 = .ok (.dup2, 1) := by decide +kernel
theorem dX0_mixBlock_288 : decode cX0_mixBlock 288 = .ok (.iaload, 1) := by decide +kernel
theorem dX0_mixBlock_289 : decode cX0_mixBlock 289 = .ok (.iload 6, 2) := by decide +kernel
theorem dX0_mixBlock_291 : decode cX0_mixBlock 291 = .ok (.iadd, 1) := by decide +kernel
theorem dX0_mixBlock_292 : decode cX0_mixBlock 292 = .ok (.iastore, 1) := by decide +kernel
theorem dX0_mixBlock_293 : decode cX0_mixBlock 293 = .ok (.aload_n 0, 1) := by decide +kernel
theorem dX0_mixBlock_294 : decode cX0_mixBlock 294 = .ok (.getfield 9, 3) := by decide +kernel
theorem dX0_mixBlock_297 : decode cX0_mixBlock 297 = .ok (.bipush 6, 2) := by decide +kernel
theorem dX0_mixBlock_299 : decode cX0_mixBlock 299 = .ok (.dup2, 1) := by decide +kernel
theorem dX0_mixBlock_300 : decode cX0_mixBlock 300 = .ok (.iaload, 1) := by decide +kernel
theorem dX0_mixBlock_301 : decode cX0_mixBlock 301 = .ok (.iload 7, 2) := by decide +kernel
theorem dX0_mixBlock_303 : decode cX0_mixBlock 303 = .ok (.iadd, 1) := by decide +kernel
theorem dX0_mixBlock_304 : decode cX0_mixBlock 304 = .ok (.iastore, 1) := by decide +kernel
theorem dX0_mixBlock_305 : decode cX0_mixBlock 305 = .ok (.aload_n 0, 1) := by decide +kernel
theorem dX0_mixBlock_306 : decode cX0_mixBlock 306 = .ok (.getfield 9, 3) := by decide +kernel
theorem dX0_mixBlock_309 : decode cX0_mixBlock 309 = .ok (.bipush 7, 2) := by decide +kernel
theorem dX0_mixBlock_311 : decode cX0_mixBlock 311 = .ok (.dup2, 1) := by decide +kernel
theorem dX0_mixBlock_312 : decode cX0_mixBlock 312 = .ok (.iaload, 1) := by decide +kernel
theorem dX0_mixBlock_313 : decode cX0_mixBlock 313 = .ok (.iload 8, 2) := by decide +kernel
theorem dX0_mixBlock_315 : decode cX0_mixBlock 315 = .ok (.iadd, 1) := by decide +kernel
theorem dX0_mixBlock_316 : decode cX0_mixBlock 316 = .ok (.iastore, 1) := by decide +kernel
theorem dX0_mixBlock_317 : decode cX0_mixBlock 317 = .ok (.return_, 1) := by decide +kernel
theorem dX1_init_0 : decode cX1_init 0 = .ok (.aload_n 0, 1) := by decide +kernel
theorem dX1_init_1 : decode cX1_init 1 = .ok (.invokespecial 3, 3) := by decide +kernel
theorem dX1_init_4 : decode cX1_init 4 = .ok (.aload_n 0, 1) := by decide +kernel
theorem dX1_init_5 : decode cX1_init 5 = .ok (.iload_n 1, 1) := by decide +kernel
theorem dX1_init_6 : decode cX1_init 6 = .ok (.putfield 9, 3) := by decide +kernel
theorem dX1_init_9 : decode cX1_init 9 = .ok (.aload_n 0, 1) := by decide +kernel
theorem dX1_init_10 : decode cX1_init 10 = .ok (.bipush 7, 2) := by decide +kernel
theorem dX1_init_12 : decode cX1_init 12 = .ok (.newarray .int, 2) := by decide +kernel
theorem dX1_init_14 : decode cX1_init 14 = .ok (.putfield 15, 3) := by decide +kernel
theorem dX1_init_17 : decode cX1_init 17 = .ok (.aload_n 0, 1) := by decide +kernel
theorem dX1_init_18 : decode cX1_init 18 = .ok (.bipush 7, 2) := by decide +kernel
theorem dX1_init_20 : decode cX1_init 20 = .ok (.newarray .int, 2) := by decide +kernel
theorem dX1_init_22 : decode cX1_init 22 = .ok (.putfield 19, 3) := by decide +kernel
theorem dX1_init_25 : decode cX1_init 25 = .ok (.iload_n 1, 1) := by decide +kernel
theorem dX1_init_26 : decode cX1_init 26 = .ok (.istore_n 2, 1) := by decide +kernel
theorem dX1_init_27 : decode cX1_init 27 = .ok (.iconst 0, 1) := by decide +kernel
theorem dX1_init_28 : decode cX1_init 28 = .ok (.istore_n 3, 1) := by decide +kernel
theorem dX1_init_29 : decode cX1_init 29 = .ok (.iconst 0, 1) := by decide +kernel
theorem dX1_init_30 : decode cX1_init 30 = .ok (.istore 4, 2) := by decide +kernel
theorem dX1_init_32 : decode cX1_init 32 = .ok (.iconst 0, 1) := by decide +kernel
theorem dX1_init_33 : decode cX1_init 33 = .ok (.istore 5, 2) := by decide +kernel
theorem dX1_init_35 : decode cX1_init 35 = .ok (.iload 4, 2) := by decide +kernel
theorem dX1_init_37 : decode cX1_init 37 = .ok (.bipush 7, 2) := by decide +kernel
theorem dX1_init_39 : decode cX1_init 39 = .ok (.if_icmp .ge 52, 3) := by decide +kernel
theorem dX1_init_42 : decode cX1_init 42 = .ok (.iload 5, 2) := by decide +kernel
theorem dX1_init_44 : decode cX1_init 44 = .ok (.ifCond .ne 47, 3) := by decide +kernel
theorem dX1_init_47 : decode cX1_init 47 = .ok (.aload_n 0, 1) := by decide +kernel
theorem dX1_init_48 : decode cX1_init 48 = .ok (.getfield 15, 3) := by decide +kernel
theorem dX1_init_51 : decode cX1_init 51 = .ok (.iload 4, 2) := by decide +kernel
theorem dX1_init_53 : decode cX1_init 53 = .ok (.iload_n 2, 1) := by decide +kernel
theorem dX1_init_54 : decode cX1_init 54 = .ok (.iastore, 1) := by decide +kernel
theorem dX1_init_55 : decode cX1_init 55 = .ok (.aload_n 0, 1) := by decide +kernel
theorem dX1_init_56 : decode cX1_init 56 = .ok (.getfield 19, 3) := by decide +kernel
theorem dX1_init_59 : decode cX1_init 59 = .ok (.iload 4, 2) := by decide +kernel
theorem dX1_init_61 : decode cX1_init 61 = .ok (.iload_n 3, 1) := by decide +kernel
theorem dX1_init_62 : decode cX1_init 62 = .ok (.iastore, 1) := by decide +kernel
theorem dX1_init_63 : decode cX1_init 63 = .ok (.iload_n 3, 1) := by decide +kernel
theorem dX1_init_64 : decode cX1_init 64 = .ok (.iload_n 2, 1) := by decide +kernel
theorem dX1_init_65 : decode cX1_init 65 = .ok (.iadd, 1) := by decide +kernel
theorem dX1_init_66 : decode cX1_init 66 = .ok (.istore_n 3, 1) := by decide +kernel
theorem dX1_init_67 : decode cX1_init 67 = .ok (.iload_n 2, 1) := by decide +kernel
theorem dX1_init_68 : decode cX1_init 68 = .ok (.iconst 1, 1) := by decide +kernel
theorem dX1_init_69 : decode cX1_init 69 = .ok (.if_icmp .ne 7, 3) := by decide +kernel
theorem dX1_init_72 : decode cX1_init 72 = .ok (.iconst 1, 1) := by decide +kernel
theorem dX1_init_73 : decode cX1_init 73 = .ok (.goto 4, 3) := by decide +kernel
theorem dX1_init_76 : decode cX1_init 76 = .ok (.iconst 0, 1) := by decide +kernel
theorem dX1_init_77 : decode cX1_init 77 = .ok (.istore 5, 2) := by decide +kernel
theorem dX1_init_79 : decode cX1_init 79 = .ok (.iload_n 2, 1) := by decide +kernel
theorem dX1_init_80 : decode cX1_init 80 = .ok (.iconst 1, 1) := by decide +kernel
theorem dX1_init_81 : decode cX1_init 81 = .ok (.iadd, 1) := by decide +kernel
theorem dX1_init_82 : decode cX1_init 82 = .ok (.iconst 2, 1) := by decide +kernel
theorem dX1_init_83 : decode cX1_init 83 = .ok (.idiv, 1) := by decide +kernel
theorem dX1_init_84 : decode cX1_init 84 = .ok (.istore_n 2, 1) := by decide +kernel
theorem dX1_init_85 : decode cX1_init 85 = .ok (.iinc 4 1, 3) := by decide +kernel
theorem dX1_init_88 : decode cX1_init 88 = .ok (.goto (-53), 3) := by decide +kernel
theorem dX1_init_91 : decode cX1_init 91 = .ok (.aload_n 0, 1) := by decide +kernel
theorem dX1_init_92 : decode cX1_init 92 = .ok (.iload 4, 2) := by decide +kernel
theorem dX1_init_94 : decode cX1_init 94 = .ok (.putfield 22, 3) := by decide +kernel
theorem dX1_init_97 : decode cX1_init 97 = .ok (.aload_n 0, 1) := by decide +kernel
theorem dX1_init_98 : decode cX1_init 98 = .ok (.iload_n 3, 1) := by decide +kernel
theorem dX1_init_99 : decode cX1_init 99 = .ok (.putfield 25, 3) := by decide +kernel
theorem dX1_init_102 : decode cX1_init 102 = .ok (.aload_n 0, 1) := by decide +kernel
theorem dX1_init_103 : decode cX1_init 103 = .ok (.bipush 8, 2) := by decide +kernel
theorem dX1_init_105 : decode cX1_init 105 = .ok (.bipush 64, 2) := by decide +kernel
theorem dX1_init_107 : decode cX1_init 107 = .ok (.iload_n 1, 1) := by decide +kernel
theorem dX1_init_108 : decode cX1_init 108 = .ok (.imul, 1) := by decide +kernel
theorem dX1_init_109 : decode cX1_init 109 = .ok (.iadd, 1) := by decide +kernel
theorem dX1_init_110 : decode cX1_init 110 = .ok (.bipush 32, 2) := by decide +kernel
theorem dX1_init_112 : decode cX1_init 112 = .ok (.iload_n 3, 1) := by decide +kernel
theorem dX1_init_113 : decode cX1_init 113 = .ok (.imul, 1) := by decide +kernel
theorem dX1_init_114 : decode cX1_init 114 = .ok (.iadd, 1) := by decide +kernel
theorem dX1_init_115 : decode cX1_init 115 = .ok (.putfield 28, 3) := by decide +kernel
theorem dX1_init_118 : decode cX1_init 118 = .ok (.return_, 1) := by decide +kernel
set_option maxRecDepth 20000 in
theorem ggX1_hasPage_X2_isBelow : GoodIn wsX1_hasPage wsX2_isBelow := goodIn_r _ [4] (by decide +kernel) (by decide +kernel)
set_option maxRecDepth 20000 in
theorem gX1_hasPage_X2_isBelow_n31 : GoodIn wsX1_hasPage (wsX2_isBelow) := ggX1_hasPage_X2_isBelow
theorem dX1_hasPage_0 : decode cX1_hasPage 0 = .ok (.iload_n 1, 1) := by decide +kernel
theorem dX1_hasPage_1 : decode cX1_hasPage 1 = .ok (.aload_n 0, 1) := by decide +kernel
theorem dX1_hasPage_2 : decode cX1_hasPage 2 = .ok (.getfield 9, 3) := by decide +kernel
theorem dX1_hasPage_5 : decode cX1_hasPage 5 = .ok (.invokestatic 31, 3) := by decide +kernel
theorem dX1_hasPage_8 : decode cX1_hasPage 8 = .ok (.ireturn, 1) := by decide +kernel
set_option maxRecDepth 20000 in
theorem ggX1_hasNode_X2_isBelow : GoodIn wsX1_hasNode wsX2_isBelow := goodIn_r _ [5] (by decide +kernel) (by decide +kernel)
set_option maxRecDepth 20000 in
theorem gX1_hasNode_X2_isBelow_n31 : GoodIn wsX1_hasNode (wsX2_isBelow) := ggX1_hasNode_X2_isBelow
theorem dX1_hasNode_0 : decode cX1_hasNode 0 = .ok (.iload_n 1, 1) := by decide +kernel
theorem dX1_hasNode_1 : decode cX1_hasNode 1 = .ok (.aload_n 0, 1) := by decide +kernel
theorem dX1_hasNode_2 : decode cX1_hasNode 2 = .ok (.getfield 22, 3) := by decide +kernel
theorem dX1_hasNode_5 : decode cX1_hasNode 5 = .ok (.invokestatic 31, 3) := by decide +kernel
theorem dX1_hasNode_8 : decode cX1_hasNode 8 = .ok (.ifCond .eq 20, 3) := by decide +kernel
theorem dX1_hasNode_11 : decode cX1_hasNode 11 = .ok (.iload_n 2, 1) := by decide +kernel
theorem dX1_hasNode_12 : decode cX1_hasNode 12 = .ok (.aload_n 0, 1) := by decide +kernel
theorem dX1_hasNode_13 : decode cX1_hasNode 13 = .ok (.getfield 15, 3) := by decide +kernel
theorem dX1_hasNode_16 : decode cX1_hasNode 16 = .ok (.iload_n 1, 1) := by decide +kernel
theorem dX1_hasNode_17 : decode cX1_hasNode 17 = .ok (.iaload, 1) := by decide +kernel
theorem dX1_hasNode_18 : decode cX1_hasNode 18 = .ok (.invokestatic 31, 3) := by decide +kernel
theorem dX1_hasNode_21 : decode cX1_hasNode 21 = .ok (.ifCond .eq 7, 3) := by decide +kernel
theorem dX1_hasNode_24 : decode cX1_hasNode 24 = .ok (.iconst 1, 1) := by decide +kernel
theorem dX1_hasNode_25 : decode cX1_hasNode 25 = .ok (.goto 4, 3) := by decide +kernel
theorem dX1_hasNode_28 : decode cX1_hasNode 28 = .ok (.iconst 0, 1) := by decide +kernel
theorem dX1_hasNode_29 : decode cX1_hasNode 29 = .ok (.ireturn, 1) := by decide +kernel
theorem dX1_placeOfPage_0 : decode cX1_placeOfPage 0 = .ok (.bipush 8, 2) := by decide +kernel
theorem dX1_placeOfPage_2 : decode cX1_placeOfPage 2 = .ok (.bipush 64, 2) := by decide +kernel
theorem dX1_placeOfPage_4 : decode cX1_placeOfPage 4 = .ok (.iload_n 1, 1) := by decide +kernel
theorem dX1_placeOfPage_5 : decode cX1_placeOfPage 5 = .ok (.imul, 1) := by decide +kernel
theorem dX1_placeOfPage_6 : decode cX1_placeOfPage 6 = .ok (.iadd, 1) := by decide +kernel
theorem dX1_placeOfPage_7 : decode cX1_placeOfPage 7 = .ok (.ireturn, 1) := by decide +kernel
theorem dX1_numberOfNode_0 : decode cX1_numberOfNode 0 = .ok (.aload_n 0, 1) := by decide +kernel
theorem dX1_numberOfNode_1 : decode cX1_numberOfNode 1 = .ok (.getfield 19, 3) := by decide +kernel
theorem dX1_numberOfNode_4 : decode cX1_numberOfNode 4 = .ok (.iload_n 1, 1) := by decide +kernel
theorem dX1_numberOfNode_5 : decode cX1_numberOfNode 5 = .ok (.iaload, 1) := by decide +kernel
theorem dX1_numberOfNode_6 : decode cX1_numberOfNode 6 = .ok (.iload_n 2, 1) := by decide +kernel
theorem dX1_numberOfNode_7 : decode cX1_numberOfNode 7 = .ok (.iadd, 1) := by decide +kernel
theorem dX1_numberOfNode_8 : decode cX1_numberOfNode 8 = .ok (.ireturn, 1) := by decide +kernel
set_option maxRecDepth 20000 in
theorem ggX1_placeOfNode_X1_numberOfNode : GoodIn wsX1_placeOfNode wsX1_numberOfNode := goodIn_r _ [6, 7, 8, 9, 10, 11, 12, 13] (by decide +kernel) (by decide +kernel)
set_option maxRecDepth 20000 in
theorem gX1_placeOfNode_X1_numberOfNode : GoodIn wsX1_placeOfNode (wsV RX1 35 RX1 yX1_numberOfNode wsX1_numberOfNode) := goodIn_app (goodIn_of _ (by decide +kernel)) ggX1_placeOfNode_X1_numberOfNode
theorem dX1_placeOfNode_0 : decode cX1_placeOfNode 0 = .ok (.bipush 8, 2) := by decide +kernel
theorem dX1_placeOfNode_2 : decode cX1_placeOfNode 2 = .ok (.bipush 64, 2) := by decide +kernel
theorem dX1_placeOfNode_4 : decode cX1_placeOfNode 4 = .ok (.aload_n 0, 1) := by decide +kernel
theorem dX1_placeOfNode_5 : decode cX1_placeOfNode 5 = .ok (.getfield 9, 3) := by decide +kernel
theorem dX1_placeOfNode_8 : decode cX1_placeOfNode 8 = .ok (.imul, 1) := by decide +kernel
theorem dX1_placeOfNode_9 : decode cX1_placeOfNode 9 = .ok (.iadd, 1) := by decide +kernel
theorem dX1_placeOfNode_10 : decode cX1_placeOfNode 10 = .ok (.bipush 32, 2) := by decide +kernel
theorem dX1_placeOfNode_12 : decode cX1_placeOfNode 12 = .ok (.aload_n 0, 1) := by decide +kernel
theorem dX1_placeOfNode_13 : decode cX1_placeOfNode 13 = .ok (.iload_n 1, 1) := by decide +kernel
theorem dX1_placeOfNode_14 : decode cX1_placeOfNode 14 = .ok (.iload_n 2, 1) := by decide +kernel
theorem dX1_placeOfNode_15 : decode cX1_placeOfNode 15 = .ok (.invokevirtual 35, 3) := by decide +kernel
theorem dX1_placeOfNode_18 : decode cX1_placeOfNode 18 = .ok (.imul, 1) := by decide +kernel
theorem dX1_placeOfNode_19 : decode cX1_placeOfNode 19 = .ok (.iadd, 1) := by decide +kernel
theorem dX1_placeOfNode_20 : decode cX1_placeOfNode 20 = .ok (.ireturn, 1) := by decide +kernel
set_option maxRecDepth 20000 in
theorem ggX2_init_X1_init : GoodIn wsX2_init wsX1_init := goodIn_r _ [30, 31, 2, 3, 32, 20, 33, 34, 35, 36, 37, 130, 131, 132, 133, 134, 135] (by decide +kernel) (by decide +kernel)
set_option maxRecDepth 20000 in
theorem gX2_init_X1_init : GoodIn wsX2_init (wsX1_init) := ggX2_init_X1_init
set_option maxRecDepth 20000 in
theorem ggX2_init_X0_init : GoodIn wsX2_init wsX0_init := goodIn_r _ [39, 40, 2, 3, 20, 41, 42, 148, 149, 150] (by decide +kernel) (by decide +kernel)
set_option maxRecDepth 20000 in
theorem gX2_init_X0_init_n29 : GoodIn wsX2_init (wsX0_init) := ggX2_init_X0_init
set_option maxRecDepth 20000 in
theorem ggX2_init_X2_sealAll : GoodIn wsX2_init wsX2_sealAll := goodIn_r _ [47, 21, 14, 48, 49, 50, 51, 52, 46, 53, 54, 55, 56, 57, 58, 18, 59, 60, 61, 62, 63, 64, 65, 17, 66, 67, 41, 68, 69, 70, 71, 72, 73, 74, 75, 76, 42, 77, 78, 79, 80, 81, 82, 83, 84, 85, 86, 87, 88, 6, 89, 90, 91, 92, 93, 94, 95, 96, 97, 98, 35, 33, 99, 100, 101, 102, 103, 104, 32, 105, 106, 107, 108, 34, 109, 110, 111, 112, 113, 114, 115, 116, 117, 118, 119, 120, 121, 122, 123, 124, 125, 22, 126, 127, 128, 129, 136, 137, 138, 139, 140, 141, 142, 143, 144, 145, 146, 147, 130, 131, 132, 133, 134, 135, 148, 149, 150] (by decide +kernel) (by decide +kernel)
set_option maxRecDepth 20000 in
theorem gX2_init_X2_sealAll : GoodIn wsX2_init (wsV RX2 60 RX2 yX2_sealAll wsX2_sealAll) := goodIn_app (goodIn_of _ (by decide +kernel)) ggX2_init_X2_sealAll
theorem dX2_init_0 : decode cX2_init 0 = .ok (.aload_n 0, 1) := by decide +kernel
theorem dX2_init_1 : decode cX2_init 1 = .ok (.invokespecial 1, 3) := by decide +kernel
theorem dX2_init_4 : decode cX2_init 4 = .ok (.aload_n 0, 1) := by decide +kernel
theorem dX2_init_5 : decode cX2_init 5 = .ok (.new 7, 3) := by decide +kernel
theorem dX2_init_8 : decode cX2_init 8 = .ok (.dup, 1) := by decide +kernel
theorem dX2_init_9 : decode cX2_init 9 = .ok (.iconst 1, 1) := by decide +kernel
theorem dX2_init_10 : decode cX2_init 10 = .ok (.bipush 64, 2) := by decide +kernel
theorem dX2_init_12 : decode cX2_init 12 = .ok (.iload_n 1, 1) := by decide +kernel
theorem dX2_init_13 : decode cX2_init 13 = .ok (.invokestatic 11, 3) := by decide +kernel
theorem dX2_init_16 : decode cX2_init 16 = .ok (.invokestatic 17, 3) := by decide +kernel
theorem dX2_init_19 : decode cX2_init 19 = .ok (.invokespecial 20, 3) := by decide +kernel
theorem dX2_init_22 : decode cX2_init 22 = .ok (.putfield 23, 3) := by decide +kernel
theorem dX2_init_25 : decode cX2_init 25 = .ok (.aload_n 0, 1) := by decide +kernel
theorem dX2_init_26 : decode cX2_init 26 = .ok (.new 27, 3) := by decide +kernel
theorem dX2_init_29 : decode cX2_init 29 = .ok (.dup, 1) := by decide +kernel
theorem dX2_init_30 : decode cX2_init 30 = .ok (.invokespecial 29, 3) := by decide +kernel
theorem dX2_init_33 : decode cX2_init 33 = .ok (.putfield 30, 3) := by decide +kernel
theorem dX2_init_36 : decode cX2_init 36 = .ok (.aload_n 0, 1) := by decide +kernel
theorem dX2_init_37 : decode cX2_init 37 = .ok (.aload_n 0, 1) := by decide +kernel
theorem dX2_init_38 : decode cX2_init 38 = .ok (.getfield 23, 3) := by decide +kernel
theorem dX2_init_41 : decode cX2_init 41 = .ok (.getfield 34, 3) := by decide +kernel
theorem dX2_init_44 : decode cX2_init 44 = .ok (.newarray .int, 2) := by decide +kernel
theorem dX2_init_46 : decode cX2_init 46 = .ok (.putfield 38, 3) := by decide +kernel
theorem dX2_init_49 : decode cX2_init 49 = .ok (.aload_n 0, 1) := by decide +kernel
theorem dX2_init_50 : decode cX2_init 50 = .ok (.bipush 32, 2) := by decide +kernel
theorem dX2_init_52 : decode cX2_init 52 = .ok (.newarray .int, 2) := by decide +kernel
theorem dX2_init_54 : decode cX2_init 54 = .ok (.putfield 42, 3) := by decide +kernel
theorem dX2_init_57 : decode cX2_init 57 = .ok (.aload_n 0, 1) := by decide +kernel
theorem dX2_init_58 : decode cX2_init 58 = .ok (.bipush 64, 2) := by decide +kernel
theorem dX2_init_60 : decode cX2_init 60 = .ok (.newarray .int, 2) := by decide +kernel
theorem dX2_init_62 : decode cX2_init 62 = .ok (.putfield 45, 3) := by decide +kernel
theorem dX2_init_65 : decode cX2_init 65 = .ok (.aload_n 0, 1) := by decide +kernel
theorem dX2_init_66 : decode cX2_init 66 = .ok (.aload_n 0, 1) := by decide +kernel
theorem dX2_init_67 : decode cX2_init 67 = .ok (.getfield 23, 3) := by decide +kernel
theorem dX2_init_70 : decode cX2_init 70 = .ok (.getfield 34, 3) := by decide +kernel
theorem dX2_init_73 : decode cX2_init 73 = .ok (.newarray .int, 2) := by decide +kernel
theorem dX2_init_75 : decode cX2_init 75 = .ok (.putfield 48, 3) := by decide +kernel
theorem dX2_init_78 : decode cX2_init 78 = .ok (.aload_n 0, 1) := by decide +kernel
theorem dX2_init_79 : decode cX2_init 79 = .ok (.bipush 32, 2) := by decide +kernel
theorem dX2_init_81 : decode cX2_init 81 = .ok (.newarray .int, 2) := by decide +kernel
theorem dX2_init_83 : decode cX2_init 83 = .ok (.putfield 51, 3) := by decide +kernel
theorem dX2_init_86 : decode cX2_init 86 = .ok (.aload_n 0, 1) := by decide +kernel
theorem dX2_init_87 : decode cX2_init 87 = .ok (.aload_n 0, 1) := by decide +kernel
theorem dX2_init_88 : decode cX2_init 88 = .ok (.getfield 23, 3) := by decide +kernel
theorem dX2_init_91 : decode cX2_init 91 = .ok (.getfield 54, 3) := by decide +kernel
theorem dX2_init_94 : decode cX2_init 94 = .ok (.newarray .int, 2) := by decide +kernel
theorem dX2_init_96 : decode cX2_init 96 = .ok (.putfield 57, 3) := by decide +kernel
theorem dX2_init_99 : decode cX2_init 99 = .ok (.aload_n 0, 1) := by decide +kernel
theorem dX2_init_100 : decode cX2_init 100 = .ok (.invokevirtual 60, 3) := by decide +kernel
theorem dX2_init_103 : decode cX2_init 103 = .ok (.return_, 1) := by decide +kernel
set_option maxRecDepth 20000 in
theorem ggX2_put_X2_isBelow : GoodIn wsX2_put wsX2_isBelow := goodIn_r _ [5] (by decide +kernel) (by decide +kernel)
set_option maxRecDepth 20000 in
theorem gX2_put_X2_isBelow : GoodIn wsX2_put (va_wsS RX2 63 yX2_isBelow wsX2_isBelow) := goodIn_app (goodIn_of _ (by decide +kernel)) ggX2_put_X2_isBelow
theorem dX2_put_0 : decode cX2_put 0 = .ok (.iload_n 1, 1) := by decide +kernel
theorem dX2_put_1 : decode cX2_put 1 = .ok (.bipush 64, 2) := by decide +kernel
theorem dX2_put_3 : decode cX2_put 3 = .ok (.invokestatic 63, 3) := by decide +kernel
theorem dX2_put_6 : decode cX2_put 6 = .ok (.ifCond .ne 5, 3) := by decide +kernel
theorem dX2_put_9 : decode cX2_put 9 = .ok (.iconst (-1), 1) := by decide +kernel
theorem dX2_put_10 : decode cX2_put 10 = .ok (.ireturn, 1) := by decide +kernel
theorem dX2_put_11 : decode cX2_put 11 = .ok (.aload_n 0, 1) := by decide +kernel
theorem dX2_put_12 : decode cX2_put 12 = .ok (.getfield 45, 3) := by decide +kernel
theorem dX2_put_15 : decode cX2_put 15 = .ok (.iload_n 1, 1) := by decide +kernel
theorem dX2_put_16 : decode cX2_put 16 = .ok (.iaload, 1) := by decide +kernel
theorem dX2_put_17 : decode cX2_put 17 = .ok (.istore_n 3, 1) := by decide +kernel
theorem dX2_put_18 : decode cX2_put 18 = .ok (.aload_n 0, 1) := by decide +kernel
theorem dX2_put_19 : decode cX2_put 19 = .ok (.getfield 45, 3) := by decide +kernel
theorem dX2_put_22 : decode cX2_put 22 = .ok (.iload_n 1, 1) := by decide +kernel
theorem dX2_put_23 : decode cX2_put 23 = .ok (.iload_n 2, 1) := by decide +kernel
theorem dX2_put_24 : decode cX2_put 24 = .ok (.sipush 255, 3) := by decide +kernel
theorem dX2_put_27 : decode cX2_put 27 = .ok (.iand, 1) := by decide +kernel
theorem dX2_put_28 : decode cX2_put 28 = .ok (.iastore, 1) := by decide +kernel
theorem dX2_put_29 : decode cX2_put 29 = .ok (.iload_n 3, 1) := by decide +kernel
theorem dX2_put_30 : decode cX2_put 30 = .ok (.ireturn, 1) := by decide +kernel
set_option maxRecDepth 20000 in
theorem ggX2_fill_X2_isBelow : GoodIn wsX2_fill wsX2_isBelow := goodIn_r _ [5] (by decide +kernel) (by decide +kernel)
set_option maxRecDepth 20000 in
theorem gX2_fill_X2_isBelow : GoodIn wsX2_fill (va_wsS RX2 63 yX2_isBelow wsX2_isBelow) := goodIn_app (goodIn_of _ (by decide +kernel)) ggX2_fill_X2_isBelow
theorem dX2_fill_0 : decode cX2_fill 0 = .ok (.iload_n 1, 1) := by decide +kernel
theorem dX2_fill_1 : decode cX2_fill 1 = .ok (.bipush 8, 2) := by decide +kernel
theorem dX2_fill_3 : decode cX2_fill 3 = .ok (.invokestatic 63, 3) := by decide +kernel
theorem dX2_fill_6 : decode cX2_fill 6 = .ok (.ifCond .ne 5, 3) := by decide +kernel
theorem dX2_fill_9 : decode cX2_fill 9 = .ok (.iconst (-1), 1) := by decide +kernel
theorem dX2_fill_10 : decode cX2_fill 10 = .ok (.ireturn, 1) := by decide +kernel
theorem dX2_fill_11 : decode cX2_fill 11 = .ok (.bipush 8, 2) := by decide +kernel
theorem dX2_fill_13 : decode cX2_fill 13 = .ok (.iload_n 1, 1) := by decide +kernel
theorem dX2_fill_14 : decode cX2_fill 14 = .ok (.imul, 1) := by decide +kernel
theorem dX2_fill_15 : decode cX2_fill 15 = .ok (.istore 4, 2) := by decide +kernel
theorem dX2_fill_17 : decode cX2_fill 17 = .ok (.iconst 0, 1) := by decide +kernel
theorem dX2_fill_18 : decode cX2_fill 18 = .ok (.istore 5, 2) := by decide +kernel
theorem dX2_fill_20 : decode cX2_fill 20 = .ok (.iload 5, 2) := by decide +kernel
theorem dX2_fill_22 : decode cX2_fill 22 = .ok (.bipush 8, 2) := by decide +kernel
theorem dX2_fill_24 : decode cX2_fill 24 = .ok (.if_icmp .ge 34, 3) := by decide +kernel
theorem dX2_fill_27 : decode cX2_fill 27 = .ok (.aload_n 0, 1) := by decide +kernel
theorem dX2_fill_28 : decode cX2_fill 28 = .ok (.getfield 45, 3) := by decide +kernel
theorem dX2_fill_31 : decode cX2_fill 31 = .ok (.iload 4, 2) := by decide +kernel
theorem dX2_fill_33 : decode cX2_fill 33 = .ok (.iload 5, 2) := by decide +kernel
theorem dX2_fill_35 : decode cX2_fill 35 = .ok (.iadd, 1) := by decide +kernel
theorem dX2_fill_36 : decode cX2_fill 36 = .ok (.lload_n 2, 1) := by decide +kernel
theorem dX2_fill_37 : decode cX2_fill 37 = .ok (.bipush 56, 2) := by decide +kernel
theorem dX2_fill_39 : decode cX2_fill 39 = .ok (.bipush 8, 2) := by decide +kernel
theorem dX2_fill_41 : decode cX2_fill 41 = .ok (.iload 5, 2) := by decide +kernel
theorem dX2_fill_43 : decode cX2_fill 43 = .ok (.imul, 1) := by decide +kernel
theorem dX2_fill_44 : decode cX2_fill 44 = .ok (.isub, 1) := by decide +kernel
theorem dX2_fill_45 : decode cX2_fill 45 = .ok (.lushr, 1) := by decide +kernel
theorem dX2_fill_46 : decode cX2_fill 46 = .ok (.l2i, 1) := by decide +kernel
theorem dX2_fill_47 : decode cX2_fill 47 = .ok (.sipush 255, 3) := by decide +kernel
theorem dX2_fill_50 : decode cX2_fill 50 = .ok (.iand, 1) := by decide +kernel
theorem dX2_fill_51 : decode cX2_fill 51 = .ok (.iastore, 1) := by decide +kernel
theorem dX2_fill_52 : decode cX2_fill 52 = .ok (.iinc 5 1, 3) := by decide +kernel
theorem dX2_fill_55 : decode cX2_fill 55 = .ok (.goto (-35), 3) := by decide +kernel
theorem dX2_fill_58 : decode cX2_fill 58 = .ok (.iload 4, 2) := by decide +kernel
theorem dX2_fill_60 : decode cX2_fill 60 = .ok (.ireturn, 1) := by decide +kernel
set_option maxRecDepth 20000 in
theorem ggX2_draft_X2_isBelow : GoodIn wsX2_draft wsX2_isBelow := goodIn_r _ [5] (by decide +kernel) (by decide +kernel)
set_option maxRecDepth 20000 in
theorem gX2_draft_X2_isBelow : GoodIn wsX2_draft (va_wsS RX2 63 yX2_isBelow wsX2_isBelow) := goodIn_app (goodIn_of _ (by decide +kernel)) ggX2_draft_X2_isBelow
theorem dX2_draft_0 : decode cX2_draft 0 = .ok (.iload_n 1, 1) := by decide +kernel
theorem dX2_draft_1 : decode cX2_draft 1 = .ok (.bipush 64, 2) := by decide +kernel
theorem dX2_draft_3 : decode cX2_draft 3 = .ok (.invokestatic 63, 3) := by decide +kernel
theorem dX2_draft_6 : decode cX2_draft 6 = .ok (.ifCond .eq 12, 3) := by decide +kernel
theorem dX2_draft_9 : decode cX2_draft 9 = .ok (.aload_n 0, 1) := by decide +kernel
theorem dX2_draft_10 : decode cX2_draft 10 = .ok (.getfield 45, 3) := by decide +kernel
theorem dX2_draft_13 : decode cX2_draft 13 = .ok (.iload_n 1, 1) := by decide +kernel
theorem dX2_draft_14 : decode cX2_draft 14 = .ok (.iaload, 1) := by decide +kernel
theorem dX2_draft_15 : decode cX2_draft 15 = .ok (.goto 4, 3) := by decide +kernel
theorem dX2_draft_18 : decode cX2_draft 18 = .ok (.iconst (-1), 1) := by decide +kernel
theorem dX2_draft_19 : decode cX2_draft 19 = .ok (.ireturn, 1) := by decide +kernel
set_option maxRecDepth 20000 in
theorem ggX2_read_X2_fault : GoodIn wsX2_read wsX2_fault := goodIn_r _ [14, 2, 15, 16, 17, 18, 19, 20, 21, 22, 13, 23, 24, 25, 26, 27, 1, 28, 29, 30, 31, 32, 33, 34, 35, 36, 37, 38, 39, 40, 41, 42, 43, 44, 45, 46, 5, 6, 7, 47, 48, 49, 50, 51, 52, 53, 54, 55, 56, 57, 58, 59, 60, 61, 62, 63, 64, 65, 66, 67, 68, 69, 70, 71, 72, 73, 74, 75, 76, 77, 78, 79, 80, 81, 82, 83, 84, 85, 86, 87, 88, 89, 90, 91, 92, 93, 94, 95, 96, 97, 98, 99, 100, 101, 102, 103, 104, 105, 106, 107, 108, 109, 110, 111, 112, 113, 114, 115, 116, 117, 118, 119, 120, 121, 122, 123, 124, 125, 126, 127] (by decide +kernel) (by decide +kernel)
set_option maxRecDepth 20000 in
theorem gX2_read_X2_fault : GoodIn wsX2_read (wsV RX2 67 RX2 yX2_fault wsX2_fault) := goodIn_app (goodIn_of _ (by decide +kernel)) ggX2_read_X2_fault
set_option maxRecDepth 20000 in
theorem ggX2_read_X1_placeOfPage : GoodIn wsX2_read wsX1_placeOfPage := goodIn_r _ [100] (by decide +kernel) (by decide +kernel)
set_option maxRecDepth 20000 in
theorem gX2_read_X1_placeOfPage : GoodIn wsX2_read (wsV RX2 71 RX1 yX1_placeOfPage wsX1_placeOfPage) := goodIn_app (goodIn_of _ (by decide +kernel)) ggX2_read_X1_placeOfPage
theorem dX2_read_0 : decode cX2_read 0 = .ok (.aload_n 0, 1) := by decide +kernel
theorem dX2_read_1 : decode cX2_read 1 = .ok (.iload_n 1, 1) := by decide +kernel
theorem dX2_read_2 : decode cX2_read 2 = .ok (.invokevirtual 67, 3) := by decide +kernel
theorem dX2_read_5 : decode cX2_read 5 = .ok (.istore_n 2, 1) := by decide +kernel
theorem dX2_read_6 : decode cX2_read 6 = .ok (.iload_n 2, 1) := by decide +kernel
theorem dX2_read_7 : decode cX2_read 7 = .ok (.ifCond .ne 38, 3) := by decide +kernel
theorem dX2_read_10 : decode cX2_read 10 = .ok (.aload_n 0, 1) := by decide +kernel
theorem dX2_read_11 : decode cX2_read 11 = .ok (.getfield 38, 3) := by decide +kernel
theorem dX2_read_14 : decode cX2_read 14 = .ok (.aload_n 0, 1) := by decide +kernel
theorem dX2_read_15 : decode cX2_read 15 = .ok (.getfield 23, 3) := by decide +kernel
theorem dX2_read_18 : decode cX2_read 18 = .ok (.iload_n 1, 1) := by decide +kernel
theorem dX2_read_19 : decode cX2_read 19 = .ok (.invokevirtual 71, 3) := by decide +kernel
theorem dX2_read_22 : decode cX2_read 22 = .ok (.aload_n 0, 1) := by decide +kernel
theorem dX2_read_23 : decode cX2_read 23 = .ok (.getfield 45, 3) := by decide +kernel
theorem dX2_read_26 : decode cX2_read 26 = .ok (.iconst 0, 1) := by decide +kernel
theorem dX2_read_27 : decode cX2_read 27 = .ok (.bipush 64, 2) := by decide +kernel
theorem dX2_read_29 : decode cX2_read 29 = .ok (.invokestatic 74, 3) := by decide +kernel
theorem dX2_read_32 : decode cX2_read 32 = .ok (.aload_n 0, 1) := by decide +kernel
theorem dX2_read_33 : decode cX2_read 33 = .ok (.dup, 1) := by decide +kernel
theorem dX2_read_34 : decode cX2_read 34 = .ok (.getfield 80, 3) := by decide +kernel
theorem dX2_read_37 : decode cX2_read 37 = .ok (.iconst 1, 1) := by decide +kernel
theorem dX2_read_38 : decode cX2_read 38 = .ok (.iadd, 1) := by decide +kernel
