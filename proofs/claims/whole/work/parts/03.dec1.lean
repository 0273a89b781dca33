theorem dX2_read_39 : decode cX2_read 39 = .ok (.putfield 80, 3) := by decide +kernel
theorem dX2_read_42 : decode cX2_read 42 = .ok (.goto 18, 3) := by decide +kernel
theorem dX2_read_45 : decode cX2_read 45 = .ok (.iload_n 2, 1) := by decide +kernel
theorem dX2_read_46 : decode cX2_read 46 = .ok (.iconst (-1), 1) := by decide +kernel
theorem dX2_read_47 : decode cX2_read 47 = .ok (.if_icmp .eq 13, 3) := by decide +kernel
theorem dX2_read_50 : decode cX2_read 50 = .ok (.aload_n 0, 1) := by decide +kernel
theorem dX2_read_51 : decode cX2_read 51 = .ok (.dup, 1) := by decide +kernel
theorem dX2_read_52 : decode cX2_read 52 = .ok (.getfield 83, 3) := by decide +kernel
theorem dX2_read_55 : decode cX2_read 55 = .ok (.iconst 1, 1) := by decide +kernel
theorem dX2_read_56 : decode cX2_read 56 = .ok (.iadd, 1) := by decide +kernel
theorem dX2_read_57 : decode cX2_read 57 = .ok (.putfield 83, 3) := by decide +kernel
theorem dX2_read_60 : decode cX2_read 60 = .ok (.iload_n 2, 1) := by decide +kernel
theorem dX2_read_61 : decode cX2_read 61 = .ok (.ireturn, 1) := by decide +kernel
set_option maxRecDepth 20000 in
theorem ggX2_write_X2_fault : GoodIn wsX2_write wsX2_fault := goodIn_r _ [14, 3, 15, 16, 17, 18, 19, 20, 21, 22, 13, 23, 24, 25, 26, 27, 2, 28, 29, 30, 31, 32, 33, 34, 35, 36, 37, 38, 39, 40, 41, 42, 43, 44, 45, 46, 5, 6, 7, 47, 48, 49, 50, 51, 52, 53, 54, 55, 56, 57, 58, 59, 60, 61, 62, 63, 64, 65, 66, 67, 68, 69, 70, 71, 72, 73, 74, 75, 76, 77, 78, 79, 80, 81, 82, 83, 84, 85, 86, 87, 88, 89, 90, 91, 92, 93, 94, 95, 96, 97, 98, 99, 100, 101, 102, 103, 104, 105, 106, 123, 124, 125, 126, 127, 128, 129, 130, 131, 132, 133, 134, 135, 136, 137, 138, 139, 140, 141, 142, 143] (by decide +kernel) (by decide +kernel)
set_option maxRecDepth 20000 in
theorem gX2_write_X2_fault : GoodIn wsX2_write (wsV RX2 67 RX2 yX2_fault wsX2_fault) := goodIn_app (goodIn_of _ (by decide +kernel)) ggX2_write_X2_fault
set_option maxRecDepth 20000 in
theorem ggX2_write_X1_placeOfPage : GoodIn wsX2_write wsX1_placeOfPage := goodIn_r _ [100] (by decide +kernel) (by decide +kernel)
set_option maxRecDepth 20000 in
theorem gX2_write_X1_placeOfPage : GoodIn wsX2_write (wsV RX2 71 RX1 yX1_placeOfPage wsX1_placeOfPage) := goodIn_app (goodIn_of _ (by decide +kernel)) ggX2_write_X1_placeOfPage
set_option maxRecDepth 20000 in
theorem ggX2_write_X2_sealWay : GoodIn wsX2_write wsX2_sealWay := goodIn_r _ [110, 3, 15, 111, 112, 113, 13, 114, 28, 2, 92, 93, 94, 95, 39, 40, 41, 42, 43, 44, 45, 46, 5, 6, 7, 47, 96, 53, 54, 55, 56, 57, 58, 59, 60, 61, 62, 63, 64, 65, 97, 98, 99, 19, 100, 48, 49, 50, 51, 52, 101, 102, 103, 104, 105, 106, 22, 23, 66, 67, 68, 69, 21, 70, 71, 72, 73, 74, 75, 76, 77, 78, 79, 115, 116, 117, 118, 84, 85, 86, 87, 119, 120, 121, 122, 29, 35, 36, 37, 38, 123, 124, 125, 126, 127, 128, 129, 130, 131, 132, 133, 134, 135, 136, 137, 138, 139, 140, 141, 142, 143] (by decide +kernel) (by decide +kernel)
set_option maxRecDepth 20000 in
theorem gX2_write_X2_sealWay : GoodIn wsX2_write (wsV RX2 86 RX2 yX2_sealWay wsX2_sealWay) := goodIn_app (goodIn_of _ (by decide +kernel)) ggX2_write_X2_sealWay
theorem dX2_write_0 : decode cX2_write 0 = .ok (.aload_n 0, 1) := by decide +kernel
theorem dX2_write_1 : decode cX2_write 1 = .ok (.iload_n 1, 1) := by decide +kernel
theorem dX2_write_2 : decode cX2_write 2 = .ok (.invokevirtual 67, 3) := by decide +kernel
theorem dX2_write_5 : decode cX2_write 5 = .ok (.istore_n 2, 1) := by decide +kernel
theorem dX2_write_6 : decode cX2_write 6 = .ok (.iload_n 2, 1) := by decide +kernel
theorem dX2_write_7 : decode cX2_write 7 = .ok (.ifCond .ne 43, 3) := by decide +kernel
theorem dX2_write_10 : decode cX2_write 10 = .ok (.aload_n 0, 1) := by decide +kernel
theorem dX2_write_11 : decode cX2_write 11 = .ok (.getfield 45, 3) := by decide +kernel
theorem dX2_write_14 : decode cX2_write 14 = .ok (.iconst 0, 1) := by decide +kernel
theorem dX2_write_15 : decode cX2_write 15 = .ok (.aload_n 0, 1) := by decide +kernel
theorem dX2_write_16 : decode cX2_write 16 = .ok (.getfield 38, 3) := by decide +kernel
theorem dX2_write_19 : decode cX2_write 19 = .ok (.aload_n 0, 1) := by decide +kernel
theorem dX2_write_20 : decode cX2_write 20 = .ok (.getfield 23, 3) := by decide +kernel
theorem dX2_write_23 : decode cX2_write 23 = .ok (.iload_n 1, 1) := by decide +kernel
theorem dX2_write_24 : decode cX2_write 24 = .ok (.invokevirtual 71, 3) := by decide +kernel
theorem dX2_write_27 : decode cX2_write 27 = .ok (.bipush 64, 2) := by decide +kernel
theorem dX2_write_29 : decode cX2_write 29 = .ok (.invokestatic 74, 3) := by decide +kernel
theorem dX2_write_32 : decode cX2_write 32 = .ok (.aload_n 0, 1) := by decide +kernel
theorem dX2_write_33 : decode cX2_write 33 = .ok (.iload_n 1, 1) := by decide +kernel
theorem dX2_write_34 : decode cX2_write 34 = .ok (.invokevirtual 86, 3) := by decide +kernel
theorem dX2_write_37 : decode cX2_write 37 = .ok (.aload_n 0, 1) := by decide +kernel
theorem dX2_write_38 : decode cX2_write 38 = .ok (.dup, 1) := by decide +kernel
theorem dX2_write_39 : decode cX2_write 39 = .ok (.getfield 89, 3) := by decide +kernel
theorem dX2_write_42 : decode cX2_write 42 = .ok (.iconst 1, 1) := by decide +kernel
theorem dX2_write_43 : decode cX2_write 43 = .ok (.iadd, 1) := by decide +kernel
theorem dX2_write_44 : decode cX2_write 44 = .ok (.putfield 89, 3) := by decide +kernel
theorem dX2_write_47 : decode cX2_write 47 = .ok (.goto 18, 3) := by decide +kernel
theorem dX2_write_50 : decode cX2_write 50 = .ok (.iload_n 2, 1) := by decide +kernel
theorem dX2_write_51 : decode cX2_write 51 = .ok (.iconst (-1), 1) := by decide +kernel
theorem dX2_write_52 : decode cX2_write 52 = .ok (.if_icmp .eq 13, 3) := by decide +kernel
theorem dX2_write_55 : decode cX2_write 55 = .ok (.aload_n 0, 1) := by decide +kernel
theorem dX2_write_56 : decode cX2_write 56 = .ok (.dup, 1) := by decide +kernel
theorem dX2_write_57 : decode cX2_write 57 = .ok (.getfield 83, 3) := by decide +kernel
theorem dX2_write_60 : decode cX2_write 60 = .ok (.iconst 1, 1) := by decide +kernel
theorem dX2_write_61 : decode cX2_write 61 = .ok (.iadd, 1) := by decide +kernel
theorem dX2_write_62 : decode cX2_write 62 = .ok (.putfield 83, 3) := by decide +kernel
theorem dX2_write_65 : decode cX2_write 65 = .ok (.iload_n 2, 1) := by decide +kernel
theorem dX2_write_66 : decode cX2_write 66 = .ok (.ireturn, 1) := by decide +kernel
set_option maxRecDepth 20000 in
theorem ggX2_seal_X2_sealAll : GoodIn wsX2_seal wsX2_sealAll := goodIn_r _ [7, 8, 1, 9, 10, 11, 12, 13, 6, 14, 15, 16, 17, 18, 19, 20, 21, 22, 23, 24, 25, 26, 27, 28, 29, 30, 31, 32, 33, 34, 35, 36, 37, 38, 39, 40, 41, 42, 43, 44, 45, 46, 47, 48, 49, 50, 51, 52, 53, 54, 55, 56, 57, 58, 59, 60, 61, 62, 63, 64, 65, 66, 67, 68, 69, 70, 71, 72, 73, 74, 75, 76, 77, 78, 79, 80, 81, 82, 83, 84, 85, 86, 87, 88, 89, 90, 91, 92, 93, 94, 95, 96, 97, 98, 99, 100, 101, 102, 103, 104, 105, 106, 107, 108, 109, 110, 111, 112, 113, 114, 115, 116, 117, 118, 119, 120, 121] (by decide +kernel) (by decide +kernel)
set_option maxRecDepth 20000 in
theorem gX2_seal_X2_sealAll : GoodIn wsX2_seal (wsV RX2 60 RX2 yX2_sealAll wsX2_sealAll) := goodIn_app (goodIn_of _ (by decide +kernel)) ggX2_seal_X2_sealAll
theorem dX2_seal_0 : decode cX2_seal 0 = .ok (.aload_n 0, 1) := by decide +kernel
theorem dX2_seal_1 : decode cX2_seal 1 = .ok (.invokevirtual 60, 3) := by decide +kernel
theorem dX2_seal_4 : decode cX2_seal 4 = .ok (.aload_n 0, 1) := by decide +kernel
theorem dX2_seal_5 : decode cX2_seal 5 = .ok (.getfield 23, 3) := by decide +kernel
theorem dX2_seal_8 : decode cX2_seal 8 = .ok (.getfield 54, 3) := by decide +kernel
theorem dX2_seal_11 : decode cX2_seal 11 = .ok (.ireturn, 1) := by decide +kernel
theorem dX2_size_0 : decode cX2_size 0 = .ok (.aload_n 0, 1) := by decide +kernel
theorem dX2_size_1 : decode cX2_size 1 = .ok (.getfield 23, 3) := by decide +kernel
theorem dX2_size_4 : decode cX2_size 4 = .ok (.getfield 34, 3) := by decide +kernel
theorem dX2_size_7 : decode cX2_size 7 = .ok (.ireturn, 1) := by decide +kernel
set_option maxRecDepth 20000 in
theorem ggX2_disk_X2_isBelow : GoodIn wsX2_disk wsX2_isBelow := goodIn_r _ [7] (by decide +kernel) (by decide +kernel)
set_option maxRecDepth 20000 in
theorem gX2_disk_X2_isBelow : GoodIn wsX2_disk (va_wsS RX2 63 yX2_isBelow wsX2_isBelow) := goodIn_app (goodIn_of _ (by decide +kernel)) ggX2_disk_X2_isBelow
theorem dX2_disk_0 : decode cX2_disk 0 = .ok (.iload_n 1, 1) := by decide +kernel
theorem dX2_disk_1 : decode cX2_disk 1 = .ok (.aload_n 0, 1) := by decide +kernel
theorem dX2_disk_2 : decode cX2_disk 2 = .ok (.getfield 23, 3) := by decide +kernel
theorem dX2_disk_5 : decode cX2_disk 5 = .ok (.getfield 34, 3) := by decide +kernel
theorem dX2_disk_8 : decode cX2_disk 8 = .ok (.invokestatic 63, 3) := by decide +kernel
theorem dX2_disk_11 : decode cX2_disk 11 = .ok (.ifCond .eq 12, 3) := by decide +kernel
theorem dX2_disk_14 : decode cX2_disk 14 = .ok (.aload_n 0, 1) := by decide +kernel
theorem dX2_disk_15 : decode cX2_disk 15 = .ok (.getfield 38, 3) := by decide +kernel
theorem dX2_disk_18 : decode cX2_disk 18 = .ok (.iload_n 1, 1) := by decide +kernel
theorem dX2_disk_19 : decode cX2_disk 19 = .ok (.iaload, 1) := by decide +kernel
theorem dX2_disk_20 : decode cX2_disk 20 = .ok (.goto 4, 3) := by decide +kernel
theorem dX2_disk_23 : decode cX2_disk 23 = .ok (.iconst (-1), 1) := by decide +kernel
theorem dX2_disk_24 : decode cX2_disk 24 = .ok (.ireturn, 1) := by decide +kernel
set_option maxRecDepth 20000 in
theorem ggX2_alter_X2_isBelow : GoodIn wsX2_alter wsX2_isBelow := goodIn_r _ [7] (by decide +kernel) (by decide +kernel)
set_option maxRecDepth 20000 in
theorem gX2_alter_X2_isBelow : GoodIn wsX2_alter (va_wsS RX2 63 yX2_isBelow wsX2_isBelow) := goodIn_app (goodIn_of _ (by decide +kernel)) ggX2_alter_X2_isBelow
theorem dX2_alter_0 : decode cX2_alter 0 = .ok (.iload_n 1, 1) := by decide +kernel
theorem dX2_alter_1 : decode cX2_alter 1 = .ok (.aload_n 0, 1) := by decide +kernel
theorem dX2_alter_2 : decode cX2_alter 2 = .ok (.getfield 23, 3) := by decide +kernel
theorem dX2_alter_5 : decode cX2_alter 5 = .ok (.getfield 34, 3) := by decide +kernel
theorem dX2_alter_8 : decode cX2_alter 8 = .ok (.invokestatic 63, 3) := by decide +kernel
theorem dX2_alter_11 : decode cX2_alter 11 = .ok (.ifCond .ne 5, 3) := by decide +kernel
theorem dX2_alter_14 : decode cX2_alter 14 = .ok (.iconst (-1), 1) := by decide +kernel
theorem dX2_alter_15 : decode cX2_alter 15 = .ok (.ireturn, 1) := by decide +kernel
theorem dX2_alter_16 : decode cX2_alter 16 = .ok (.aload_n 0, 1) := by decide +kernel
theorem dX2_alter_17 : decode cX2_alter 17 = .ok (.getfield 38, 3) := by decide +kernel
theorem dX2_alter_20 : decode cX2_alter 20 = .ok (.iload_n 1, 1) := by decide +kernel
theorem dX2_alter_21 : decode cX2_alter 21 = .ok (.iaload, 1) := by decide +kernel
theorem dX2_alter_22 : decode cX2_alter 22 = .ok (.istore_n 3, 1) := by decide +kernel
theorem dX2_alter_23 : decode cX2_alter 23 = .ok (.aload_n 0, 1) := by decide +kernel
theorem dX2_alter_24 : decode cX2_alter 24 = .ok (.getfield 38, 3) := by decide +kernel
theorem dX2_alter_27 : decode cX2_alter 27 = .ok (.iload_n 1, 1) := by decide +kernel
theorem dX2_alter_28 : decode cX2_alter 28 = .ok (.iload_n 3, 1) := by decide +kernel
theorem dX2_alter_29 : decode cX2_alter 29 = .ok (.iload_n 2, 1) := by decide +kernel
theorem dX2_alter_30 : decode cX2_alter 30 = .ok (.sipush 255, 3) := by decide +kernel
theorem dX2_alter_33 : decode cX2_alter 33 = .ok (.iand, 1) := by decide +kernel
theorem dX2_alter_34 : decode cX2_alter 34 = .ok (.ixor, 1) := by decide +kernel
theorem dX2_alter_35 : decode cX2_alter 35 = .ok (.iastore, 1) := by decide +kernel
theorem dX2_alter_36 : decode cX2_alter 36 = .ok (.iload_n 3, 1) := by decide +kernel
theorem dX2_alter_37 : decode cX2_alter 37 = .ok (.ireturn, 1) := by decide +kernel
theorem dX2_carry_0 : decode cX2_carry 0 = .ok (.iload_n 3, 1) := by decide +kernel
theorem dX2_carry_1 : decode cX2_carry 1 = .ok (.ifCond .lt 11, 3) := by decide +kernel
theorem dX2_carry_4 : decode cX2_carry 4 = .ok (.iload_n 1, 1) := by decide +kernel
theorem dX2_carry_5 : decode cX2_carry 5 = .ok (.ifCond .lt 7, 3) := by decide +kernel
theorem dX2_carry_8 : decode cX2_carry 8 = .ok (.iload_n 2, 1) := by decide +kernel
theorem dX2_carry_9 : decode cX2_carry 9 = .ok (.ifCond .ge 5, 3) := by decide +kernel
theorem dX2_carry_12 : decode cX2_carry 12 = .ok (.iconst (-1), 1) := by decide +kernel
theorem dX2_carry_13 : decode cX2_carry 13 = .ok (.ireturn, 1) := by decide +kernel
theorem dX2_carry_14 : decode cX2_carry 14 = .ok (.aload_n 0, 1) := by decide +kernel
theorem dX2_carry_15 : decode cX2_carry 15 = .ok (.getfield 23, 3) := by decide +kernel
theorem dX2_carry_18 : decode cX2_carry 18 = .ok (.getfield 34, 3) := by decide +kernel
theorem dX2_carry_21 : decode cX2_carry 21 = .ok (.iload_n 3, 1) := by decide +kernel
theorem dX2_carry_22 : decode cX2_carry 22 = .ok (.isub, 1) := by decide +kernel
theorem dX2_carry_23 : decode cX2_carry 23 = .ok (.istore 4, 2) := by decide +kernel
theorem dX2_carry_25 : decode cX2_carry 25 = .ok (.iload_n 1, 1) := by decide +kernel
theorem dX2_carry_26 : decode cX2_carry 26 = .ok (.iload 4, 2) := by decide +kernel
theorem dX2_carry_28 : decode cX2_carry 28 = .ok (.if_icmp .gt 9, 3) := by decide +kernel
theorem dX2_carry_31 : decode cX2_carry 31 = .ok (.iload_n 2, 1) := by decide +kernel
theorem dX2_carry_32 : decode cX2_carry 32 = .ok (.iload 4, 2) := by decide +kernel
theorem dX2_carry_34 : decode cX2_carry 34 = .ok (.if_icmp .le 5, 3) := by decide +kernel
theorem dX2_carry_37 : decode cX2_carry 37 = .ok (.iconst (-1), 1) := by decide +kernel
theorem dX2_carry_38 : decode cX2_carry 38 = .ok (.ireturn, 1) := by decide +kernel
theorem dX2_carry_39 : decode cX2_carry 39 = .ok (.aload_n 0, 1) := by decide +kernel
theorem dX2_carry_40 : decode cX2_carry 40 = .ok (.getfield 38, 3) := by decide +kernel
theorem dX2_carry_43 : decode cX2_carry 43 = .ok (.iload_n 1, 1) := by decide +kernel
theorem dX2_carry_44 : decode cX2_carry 44 = .ok (.aload_n 0, 1) := by decide +kernel
theorem dX2_carry_45 : decode cX2_carry 45 = .ok (.getfield 38, 3) := by decide +kernel
theorem dX2_carry_48 : decode cX2_carry 48 = .ok (.iload_n 2, 1) := by decide +kernel
theorem dX2_carry_49 : decode cX2_carry 49 = .ok (.iload_n 3, 1) := by decide +kernel
theorem dX2_carry_50 : decode cX2_carry 50 = .ok (.invokestatic 74, 3) := by decide +kernel
theorem dX2_carry_53 : decode cX2_carry 53 = .ok (.iload_n 3, 1) := by decide +kernel
theorem dX2_carry_54 : decode cX2_carry 54 = .ok (.ireturn, 1) := by decide +kernel
set_option maxRecDepth 20000 in
theorem ggX2_root_X2_isBelow : GoodIn wsX2_root wsX2_isBelow := goodIn_r _ [5] (by decide +kernel) (by decide +kernel)
set_option maxRecDepth 20000 in
theorem gX2_root_X2_isBelow : GoodIn wsX2_root (va_wsS RX2 63 yX2_isBelow wsX2_isBelow) := goodIn_app (goodIn_of _ (by decide +kernel)) ggX2_root_X2_isBelow
theorem dX2_root_0 : decode cX2_root 0 = .ok (.iload_n 1, 1) := by decide +kernel
theorem dX2_root_1 : decode cX2_root 1 = .ok (.bipush 32, 2) := by decide +kernel
theorem dX2_root_3 : decode cX2_root 3 = .ok (.invokestatic 63, 3) := by decide +kernel
theorem dX2_root_6 : decode cX2_root 6 = .ok (.ifCond .eq 12, 3) := by decide +kernel
theorem dX2_root_9 : decode cX2_root 9 = .ok (.aload_n 0, 1) := by decide +kernel
theorem dX2_root_10 : decode cX2_root 10 = .ok (.getfield 42, 3) := by decide +kernel
theorem dX2_root_13 : decode cX2_root 13 = .ok (.iload_n 1, 1) := by decide +kernel
theorem dX2_root_14 : decode cX2_root 14 = .ok (.iaload, 1) := by decide +kernel
theorem dX2_root_15 : decode cX2_root 15 = .ok (.goto 4, 3) := by decide +kernel
theorem dX2_root_18 : decode cX2_root 18 = .ok (.iconst (-1), 1) := by decide +kernel
theorem dX2_root_19 : decode cX2_root 19 = .ok (.ireturn, 1) := by decide +kernel
set_option maxRecDepth 20000 in
theorem ggX2_fault_X1_hasPage : GoodIn wsX2_fault wsX1_hasPage := goodIn_r _ [7, 8, 9, 10, 11, 111, 112, 113, 114, 115, 116] (by decide +kernel) (by decide +kernel)
set_option maxRecDepth 20000 in
theorem gX2_fault_X1_hasPage : GoodIn wsX2_fault (wsV RX2 92 RX1 yX1_hasPage wsX1_hasPage) := goodIn_app (goodIn_of _ (by decide +kernel)) ggX2_fault_X1_hasPage
set_option maxRecDepth 20000 in
theorem ggX2_fault_X2_faultAboveTree : GoodIn wsX2_fault wsX2_faultAboveTree := goodIn_r _ [15, 16, 17, 18, 19, 20, 21, 10, 22, 1, 23, 24, 25, 26, 27, 2, 28, 29, 30, 31, 32, 33, 34, 35, 36, 37, 38, 39, 40, 41, 42, 43, 44, 45, 46, 47, 48, 49, 50, 51, 52, 53, 54, 55, 56, 57, 58, 59, 60, 6, 61, 8, 62, 63, 64, 65, 66, 67, 68, 69, 70, 71, 72, 73, 74, 75, 76, 77, 78, 79, 99, 100, 101, 102, 103, 104, 105, 106, 107, 108, 109, 110, 111, 112, 113, 114, 115, 116, 117, 118, 119] (by decide +kernel) (by decide +kernel)
set_option maxRecDepth 20000 in
theorem gX2_fault_X2_faultAboveTree : GoodIn wsX2_fault (wsV RX2 96 RX2 yX2_faultAboveTree wsX2_faultAboveTree) := goodIn_app (goodIn_of _ (by decide +kernel)) ggX2_fault_X2_faultAboveTree
set_option maxRecDepth 20000 in
theorem ggX2_fault_X2_faultOfNode : GoodIn wsX2_fault wsX2_faultOfNode := goodIn_r _ [83, 17, 16, 1, 84, 85, 86, 10, 87, 28, 29, 30, 31, 32, 33, 34, 35, 36, 37, 38, 39, 88, 45, 46, 47, 48, 49, 50, 51, 52, 53, 54, 55, 56, 57, 89, 90, 91, 6, 92, 40, 41, 42, 43, 44, 93, 94, 95, 96, 97, 98, 9, 11, 58, 59, 60, 61, 8, 62, 63, 64, 65, 66, 67, 68, 69, 70, 71, 72, 73, 74, 75, 76, 77, 78, 79, 99, 100, 101, 102, 103, 104, 105, 106, 107, 108, 109, 110, 117, 118, 119, 111, 112, 113, 114, 115, 116] (by decide +kernel) (by decide +kernel)
set_option maxRecDepth 20000 in
theorem gX2_fault_X2_faultOfNode : GoodIn wsX2_fault (wsV RX2 103 RX2 yX2_faultOfNode wsX2_faultOfNode) := goodIn_app (goodIn_of _ (by decide +kernel)) ggX2_fault_X2_faultOfNode
theorem dX2_fault_0 : decode cX2_fault 0 = .ok (.aload_n 0, 1) := by decide +kernel
theorem dX2_fault_1 : decode cX2_fault 1 = .ok (.getfield 23, 3) := by decide +kernel
theorem dX2_fault_4 : decode cX2_fault 4 = .ok (.iload_n 1, 1) := by decide +kernel
theorem dX2_fault_5 : decode cX2_fault 5 = .ok (.invokevirtual 92, 3) := by decide +kernel
theorem dX2_fault_8 : decode cX2_fault 8 = .ok (.ifCond .ne 5, 3) := by decide +kernel
theorem dX2_fault_11 : decode cX2_fault 11 = .ok (.iconst (-1), 1) := by decide +kernel
theorem dX2_fault_12 : decode cX2_fault 12 = .ok (.ireturn, 1) := by decide +kernel
theorem dX2_fault_13 : decode cX2_fault 13 = .ok (.aload_n 0, 1) := by decide +kernel
theorem dX2_fault_14 : decode cX2_fault 14 = .ok (.invokevirtual 96, 3) := by decide +kernel
theorem dX2_fault_17 : decode cX2_fault 17 = .ok (.istore_n 2, 1) := by decide +kernel
theorem dX2_fault_18 : decode cX2_fault 18 = .ok (.aload_n 0, 1) := by decide +kernel
theorem dX2_fault_19 : decode cX2_fault 19 = .ok (.getfield 23, 3) := by decide +kernel
theorem dX2_fault_22 : decode cX2_fault 22 = .ok (.getfield 100, 3) := by decide +kernel
theorem dX2_fault_25 : decode cX2_fault 25 = .ok (.iconst 1, 1) := by decide +kernel
theorem dX2_fault_26 : decode cX2_fault 26 = .ok (.isub, 1) := by decide +kernel
theorem dX2_fault_27 : decode cX2_fault 27 = .ok (.istore_n 3, 1) := by decide +kernel
theorem dX2_fault_28 : decode cX2_fault 28 = .ok (.iload_n 3, 1) := by decide +kernel
theorem dX2_fault_29 : decode cX2_fault 29 = .ok (.ifCond .lt 22, 3) := by decide +kernel
theorem dX2_fault_32 : decode cX2_fault 32 = .ok (.iload_n 2, 1) := by decide +kernel
theorem dX2_fault_33 : decode cX2_fault 33 = .ok (.ifCond .ne 18, 3) := by decide +kernel
theorem dX2_fault_36 : decode cX2_fault 36 = .ok (.aload_n 0, 1) := by decide +kernel
theorem dX2_fault_37 : decode cX2_fault 37 = .ok (.iload_n 3, 1) := by decide +kernel
theorem dX2_fault_38 : decode cX2_fault 38 = .ok (.iload_n 1, 1) := by decide +kernel
theorem dX2_fault_39 : decode cX2_fault 39 = .ok (.iload_n 3, 1) := by decide +kernel
theorem dX2_fault_40 : decode cX2_fault 40 = .ok (.ishr, 1) := by decide +kernel
theorem dX2_fault_41 : decode cX2_fault 41 = .ok (.invokevirtual 103, 3) := by decide +kernel
theorem dX2_fault_44 : decode cX2_fault 44 = .ok (.istore_n 2, 1) := by decide +kernel
theorem dX2_fault_45 : decode cX2_fault 45 = .ok (.iinc 3 (-1), 3) := by decide +kernel
theorem dX2_fault_48 : decode cX2_fault 48 = .ok (.goto (-20), 3) := by decide +kernel
theorem dX2_fault_51 : decode cX2_fault 51 = .ok (.iload_n 2, 1) := by decide +kernel
theorem dX2_fault_52 : decode cX2_fault 52 = .ok (.ireturn, 1) := by decide +kernel
set_option maxRecDepth 20000 in
theorem ggX2_held_X2_surveyTree : GoodIn wsX2_held wsX2_surveyTree := goodIn_r _ [8, 1, 9, 10, 3, 11, 12, 13, 7, 14, 15, 16, 17, 18, 19, 20, 21, 2, 22, 23, 24, 25, 26, 27, 28, 29, 30, 31, 32, 33, 34, 35, 36, 37, 38, 39, 40, 41, 42, 43, 44, 45, 46, 47, 48, 49, 50, 51, 52, 53, 54, 55, 56, 57, 58, 59, 60, 61, 62, 63, 64, 65, 66, 67, 68, 69, 70, 71, 72, 73, 74, 75, 76, 77, 78, 79, 80, 81, 82, 83, 84, 85, 86, 87, 88, 89, 90, 91, 92, 93, 94, 95, 96, 97, 98, 99, 100, 101, 102, 103, 104, 105, 106, 107, 108, 109, 110, 111, 112, 113, 114, 115, 116, 117, 118, 119, 120, 121, 122] (by decide +kernel) (by decide +kernel)
set_option maxRecDepth 20000 in
theorem gX2_held_X2_surveyTree : GoodIn wsX2_held (wsV RX2 106 RX2 yX2_surveyTree wsX2_surveyTree) := goodIn_app (goodIn_of _ (by decide +kernel)) ggX2_held_X2_surveyTree
set_option maxRecDepth 20000 in
theorem ggX2_held_X1_numberOfNode : GoodIn wsX2_held wsX1_numberOfNode := goodIn_r _ [65, 66, 114, 115, 116, 117, 118, 119] (by decide +kernel) (by decide +kernel)
set_option maxRecDepth 20000 in
theorem gX2_held_X1_numberOfNode : GoodIn wsX2_held (wsV RX2 112 RX1 yX1_numberOfNode wsX1_numberOfNode) := goodIn_app (goodIn_of _ (by decide +kernel)) ggX2_held_X1_numberOfNode
theorem dX2_held_0 : decode cX2_held 0 = .ok (.aload_n 0, 1) := by decide +kernel
theorem dX2_held_1 : decode cX2_held 1 = .ok (.invokevirtual 106, 3) := by decide +kernel
theorem dX2_held_4 : decode cX2_held 4 = .ok (.iconst 0, 1) := by decide +kernel
theorem dX2_held_5 : decode cX2_held 5 = .ok (.istore_n 1, 1) := by decide +kernel
theorem dX2_held_6 : decode cX2_held 6 = .ok (.iconst 0, 1) := by decide +kernel
theorem dX2_held_7 : decode cX2_held 7 = .ok (.istore_n 2, 1) := by decide +kernel
theorem dX2_held_8 : decode cX2_held 8 = .ok (.iload_n 2, 1) := by decide +kernel
theorem dX2_held_9 : decode cX2_held 9 = .ok (.aload_n 0, 1) := by decide +kernel
theorem dX2_held_10 : decode cX2_held 10 = .ok (.getfield 23, 3) := by decide +kernel
theorem dX2_held_13 : decode cX2_held 13 = .ok (.getfield 109, 3) := by decide +kernel
theorem dX2_held_16 : decode cX2_held 16 = .ok (.if_icmp .ge 29, 3) := by decide +kernel
theorem dX2_held_19 : decode cX2_held 19 = .ok (.aload_n 0, 1) := by decide +kernel
theorem dX2_held_20 : decode cX2_held 20 = .ok (.getfield 57, 3) := by decide +kernel
theorem dX2_held_23 : decode cX2_held 23 = .ok (.aload_n 0, 1) := by decide +kernel
theorem dX2_held_24 : decode cX2_held 24 = .ok (.getfield 23, 3) := by decide +kernel
theorem dX2_held_27 : decode cX2_held 27 = .ok (.iconst 0, 1) := by decide +kernel
theorem dX2_held_28 : decode cX2_held 28 = .ok (.iload_n 2, 1) := by decide +kernel
theorem dX2_held_29 : decode cX2_held 29 = .ok (.invokevirtual 112, 3) := by decide +kernel
theorem dX2_held_32 : decode cX2_held 32 = .ok (.iaload, 1) := by decide +kernel
theorem dX2_held_33 : decode cX2_held 33 = .ok (.ifCond .ne 6, 3) := by decide +kernel
theorem dX2_held_36 : decode cX2_held 36 = .ok (.iinc 1 1, 3) := by decide +kernel
theorem dX2_held_39 : decode cX2_held 39 = .ok (.iinc 2 1, 3) := by decide +kernel
theorem dX2_held_42 : decode cX2_held 42 = .ok (.goto (-34), 3) := by decide +kernel
theorem dX2_held_45 : decode cX2_held 45 = .ok (.iload_n 1, 1) := by decide +kernel
theorem dX2_held_46 : decode cX2_held 46 = .ok (.ireturn, 1) := by decide +kernel
set_option maxRecDepth 20000 in
theorem ggX2_first_X2_surveyTree : GoodIn wsX2_first wsX2_surveyTree := goodIn_r _ [8, 1, 9, 10, 3, 11, 12, 13, 7, 14, 15, 16, 17, 18, 19, 20, 21, 2, 22, 23, 24, 25, 26, 27, 28, 29, 30, 31, 32, 33, 34, 35, 36, 37, 38, 39, 40, 41, 42, 43, 44, 45, 46, 47, 48, 49, 50, 51, 52, 53, 54, 55, 56, 57, 58, 59, 60, 61, 62, 63, 64, 65, 66, 67, 68, 69, 70, 71, 72, 73, 74, 75, 76, 77, 78, 79, 80, 81, 82, 83, 84, 85, 86, 87, 88, 89, 90, 91, 92, 93, 94, 95, 96, 97, 98, 99, 100, 101, 102, 103, 104, 105, 106, 107, 108, 109, 110, 111, 112, 113, 114, 115, 116, 117, 118, 119, 120, 121, 122] (by decide +kernel) (by decide +kernel)
set_option maxRecDepth 20000 in
theorem gX2_first_X2_surveyTree : GoodIn wsX2_first (wsV RX2 106 RX2 yX2_surveyTree wsX2_surveyTree) := goodIn_app (goodIn_of _ (by decide +kernel)) ggX2_first_X2_surveyTree
set_option maxRecDepth 20000 in
theorem ggX2_first_X1_numberOfNode : GoodIn wsX2_first wsX1_numberOfNode := goodIn_r _ [65, 66, 114, 115, 116, 117, 118, 119] (by decide +kernel) (by decide +kernel)
set_option maxRecDepth 20000 in
theorem gX2_first_X1_numberOfNode : GoodIn wsX2_first (wsV RX2 112 RX1 yX1_numberOfNode wsX1_numberOfNode) := goodIn_app (goodIn_of _ (by decide +kernel)) ggX2_first_X1_numberOfNode
theorem dX2_first_0 : decode cX2_first 0 = .ok (.aload_n 0, 1) := by decide +kernel
theorem dX2_first_1 : decode cX2_first 1 = .ok (.invokevirtual 106, 3) := by decide +kernel
theorem dX2_first_4 : decode cX2_first 4 = .ok (.iconst 0, 1) := by decide +kernel
theorem dX2_first_5 : decode cX2_first 5 = .ok (.istore_n 1, 1) := by decide +kernel
theorem dX2_first_6 : decode cX2_first 6 = .ok (.iload_n 1, 1) := by decide +kernel
theorem dX2_first_7 : decode cX2_first 7 = .ok (.aload_n 0, 1) := by decide +kernel
theorem dX2_first_8 : decode cX2_first 8 = .ok (.getfield 23, 3) := by decide +kernel
theorem dX2_first_11 : decode cX2_first 11 = .ok (.getfield 109, 3) := by decide +kernel
theorem dX2_first_14 : decode cX2_first 14 = .ok (.if_icmp .ge 28, 3) := by decide +kernel
theorem dX2_first_17 : decode cX2_first 17 = .ok (.aload_n 0, 1) := by decide +kernel
theorem dX2_first_18 : decode cX2_first 18 = .ok (.getfield 57, 3) := by decide +kernel
theorem dX2_first_21 : decode cX2_first 21 = .ok (.aload_n 0, 1) := by decide +kernel
theorem dX2_first_22 : decode cX2_first 22 = .ok (.getfield 23, 3) := by decide +kernel
theorem dX2_first_25 : decode cX2_first 25 = .ok (.iconst 0, 1) := by decide +kernel
theorem dX2_first_26 : decode cX2_first 26 = .ok (.iload_n 1, 1) := by decide +kernel
theorem dX2_first_27 : decode cX2_first 27 = .ok (.invokevirtual 112, 3) := by decide +kernel
theorem dX2_first_30 : decode cX2_first 30 = .ok (.iaload, 1) := by decide +kernel
theorem dX2_first_31 : decode cX2_first 31 = .ok (.ifCond .eq 5, 3) := by decide +kernel
theorem dX2_first_34 : decode cX2_first 34 = .ok (.iload_n 1, 1) := by decide +kernel
theorem dX2_first_35 : decode cX2_first 35 = .ok (.ireturn, 1) := by decide +kernel
theorem dX2_first_36 : decode cX2_first 36 = .ok (.iinc 1 1, 3) := by decide +kernel
theorem dX2_first_39 : decode cX2_first 39 = .ok (.goto (-33), 3) := by decide +kernel
theorem dX2_first_42 : decode cX2_first 42 = .ok (.iconst (-1), 1) := by decide +kernel
theorem dX2_first_43 : decode cX2_first 43 = .ok (.ireturn, 1) := by decide +kernel
theorem dX2_levels_0 : decode cX2_levels 0 = .ok (.aload_n 0, 1) := by decide +kernel
theorem dX2_levels_1 : decode cX2_levels 1 = .ok (.getfield 23, 3) := by decide +kernel
theorem dX2_levels_4 : decode cX2_levels 4 = .ok (.getfield 100, 3) := by decide +kernel
theorem dX2_levels_7 : decode cX2_levels 7 = .ok (.ireturn, 1) := by decide +kernel
set_option maxRecDepth 20000 in
theorem ggX2_node_X1_hasNode : GoodIn wsX2_node wsX1_hasNode := goodIn_r _ [6, 7, 8, 9, 10, 11, 34, 35, 36, 37, 38, 39] (by decide +kernel) (by decide +kernel)
set_option maxRecDepth 20000 in
theorem gX2_node_X1_hasNode : GoodIn wsX2_node (wsV RX2 115 RX1 yX1_hasNode wsX1_hasNode) := goodIn_app (goodIn_of _ (by decide +kernel)) ggX2_node_X1_hasNode
set_option maxRecDepth 20000 in
theorem ggX2_node_X1_placeOfNode : GoodIn wsX2_node wsX1_placeOfNode := goodIn_r _ [15, 16, 17, 18, 19, 5, 20, 21, 34, 35, 36, 37, 38, 39] (by decide +kernel) (by decide +kernel)
set_option maxRecDepth 20000 in
theorem gX2_node_X1_placeOfNode : GoodIn wsX2_node (wsV RX2 118 RX1 yX1_placeOfNode wsX1_placeOfNode) := goodIn_app (goodIn_of _ (by decide +kernel)) ggX2_node_X1_placeOfNode
theorem dX2_node_0 : decode cX2_node 0 = .ok (.aload_n 0, 1) := by decide +kernel
theorem dX2_node_1 : decode cX2_node 1 = .ok (.getfield 23, 3) := by decide +kernel
theorem dX2_node_4 : decode cX2_node 4 = .ok (.iload_n 1, 1) := by decide +kernel
theorem dX2_node_5 : decode cX2_node 5 = .ok (.iload_n 2, 1) := by decide +kernel
theorem dX2_node_6 : decode cX2_node 6 = .ok (.invokevirtual 115, 3) := by decide +kernel
theorem dX2_node_9 : decode cX2_node 9 = .ok (.ifCond .eq 15, 3) := by decide +kernel
theorem dX2_node_12 : decode cX2_node 12 = .ok (.aload_n 0, 1) := by decide +kernel
theorem dX2_node_13 : decode cX2_node 13 = .ok (.getfield 23, 3) := by decide +kernel
theorem dX2_node_16 : decode cX2_node 16 = .ok (.iload_n 1, 1) := by decide +kernel
theorem dX2_node_17 : decode cX2_node 17 = .ok (.iload_n 2, 1) := by decide +kernel
theorem dX2_node_18 : decode cX2_node 18 = .ok (.invokevirtual 118, 3) := by decide +kernel
theorem dX2_node_21 : decode cX2_node 21 = .ok (.goto 4, 3) := by decide +kernel
theorem dX2_node_24 : decode cX2_node 24 = .ok (.iconst (-1), 1) := by decide +kernel
theorem dX2_node_25 : decode cX2_node 25 = .ok (.ireturn, 1) := by decide +kernel
set_option maxRecDepth 20000 in
theorem ggX2_proof_X1_hasPage : GoodIn wsX2_proof wsX1_hasPage := goodIn_r _ [7, 8, 9, 10, 11, 33, 34, 35, 36, 37, 38] (by decide +kernel) (by decide +kernel)
set_option maxRecDepth 20000 in
theorem gX2_proof_X1_hasPage : GoodIn wsX2_proof (wsV RX2 92 RX1 yX1_hasPage wsX1_hasPage) := goodIn_app (goodIn_of _ (by decide +kernel)) ggX2_proof_X1_hasPage
set_option maxRecDepth 20000 in
theorem ggX2_proof_X2_nodeBesideWay : GoodIn wsX2_proof wsX2_nodeBesideWay := goodIn_r _ [14] (by decide +kernel) (by decide +kernel)
set_option maxRecDepth 20000 in
theorem gX2_proof_X2_nodeBesideWay : GoodIn wsX2_proof (va_wsS RX2 121 yX2_nodeBesideWay wsX2_nodeBesideWay) := goodIn_app (goodIn_of _ (by decide +kernel)) ggX2_proof_X2_nodeBesideWay
set_option maxRecDepth 20000 in
theorem ggX2_proof_X1_hasNode : GoodIn wsX2_proof wsX1_hasNode := goodIn_r _ [18, 19, 20, 9, 10, 11, 33, 34, 35, 36, 37, 38] (by decide +kernel) (by decide +kernel)
set_option maxRecDepth 20000 in
theorem gX2_proof_X1_hasNode : GoodIn wsX2_proof (wsV RX2 115 RX1 yX1_hasNode wsX1_hasNode) := goodIn_app (goodIn_of _ (by decide +kernel)) ggX2_proof_X1_hasNode
theorem dX2_proof_0 : decode cX2_proof 0 = .ok (.aload_n 0, 1) := by decide +kernel
theorem dX2_proof_1 : decode cX2_proof 1 = .ok (.getfield 23, 3) := by decide +kernel
theorem dX2_proof_4 : decode cX2_proof 4 = .ok (.iload_n 1, 1) := by decide +kernel
theorem dX2_proof_5 : decode cX2_proof 5 = .ok (.invokevirtual 92, 3) := by decide +kernel
theorem dX2_proof_8 : decode cX2_proof 8 = .ok (.ifCond .ne 5, 3) := by decide +kernel
theorem dX2_proof_11 : decode cX2_proof 11 = .ok (.iconst (-1), 1) := by decide +kernel
theorem dX2_proof_12 : decode cX2_proof 12 = .ok (.ireturn, 1) := by decide +kernel
theorem dX2_proof_13 : decode cX2_proof 13 = .ok (.iconst 0, 1) := by decide +kernel
theorem dX2_proof_14 : decode cX2_proof 14 = .ok (.istore_n 2, 1) := by decide +kernel
theorem dX2_proof_15 : decode cX2_proof 15 = .ok (.iconst 0, 1) := by decide +kernel
theorem dX2_proof_16 : decode cX2_proof 16 = .ok (.istore_n 3, 1) := by decide +kernel
theorem dX2_proof_17 : decode cX2_proof 17 = .ok (.iload_n 3, 1) := by decide +kernel
theorem dX2_proof_18 : decode cX2_proof 18 = .ok (.aload_n 0, 1) := by decide +kernel
theorem dX2_proof_19 : decode cX2_proof 19 = .ok (.getfield 23, 3) := by decide +kernel
theorem dX2_proof_22 : decode cX2_proof 22 = .ok (.getfield 100, 3) := by decide +kernel
theorem dX2_proof_25 : decode cX2_proof 25 = .ok (.if_icmp .ge 28, 3) := by decide +kernel
theorem dX2_proof_28 : decode cX2_proof 28 = .ok (.aload_n 0, 1) := by decide +kernel
theorem dX2_proof_29 : decode cX2_proof 29 = .ok (.getfield 23, 3) := by decide +kernel
theorem dX2_proof_32 : decode cX2_proof 32 = .ok (.iload_n 3, 1) := by decide +kernel
theorem dX2_proof_33 : decode cX2_proof 33 = .ok (.iload_n 1, 1) := by decide +kernel
theorem dX2_proof_34 : decode cX2_proof 34 = .ok (.iload_n 3, 1) := by decide +kernel
theorem dX2_proof_35 : decode cX2_proof 35 = .ok (.invokestatic 121, 3) := by decide +kernel
theorem dX2_proof_38 : decode cX2_proof 38 = .ok (.invokevirtual 115, 3) := by decide +kernel
theorem dX2_proof_41 : decode cX2_proof 41 = .ok (.ifCond .eq 6, 3) := by decide +kernel
theorem dX2_proof_44 : decode cX2_proof 44 = .ok (.iinc 2 1, 3) := by decide +kernel
theorem dX2_proof_47 : decode cX2_proof 47 = .ok (.iinc 3 1, 3) := by decide +kernel
theorem dX2_proof_50 : decode cX2_proof 50 = .ok (.goto (-33), 3) := by decide +kernel
theorem dX2_proof_53 : decode cX2_proof 53 = .ok (.iload_n 2, 1) := by decide +kernel
theorem dX2_proof_54 : decode cX2_proof 54 = .ok (.ireturn, 1) := by decide +kernel
set_option maxRecDepth 20000 in
theorem ggX2_beside_X1_hasPage : GoodIn wsX2_beside wsX1_hasPage := goodIn_r _ [8, 9, 10, 11, 12, 44, 45, 46, 47, 48, 49] (by decide +kernel) (by decide +kernel)
set_option maxRecDepth 20000 in
theorem gX2_beside_X1_hasPage : GoodIn wsX2_beside (wsV RX2 92 RX1 yX1_hasPage wsX1_hasPage) := goodIn_app (goodIn_of _ (by decide +kernel)) ggX2_beside_X1_hasPage
set_option maxRecDepth 20000 in
theorem ggX2_beside_X2_isBelow : GoodIn wsX2_beside wsX2_isBelow := goodIn_r _ [12] (by decide +kernel) (by decide +kernel)
set_option maxRecDepth 20000 in
theorem gX2_beside_X2_isBelow : GoodIn wsX2_beside (va_wsS RX2 63 yX2_isBelow wsX2_isBelow) := goodIn_app (goodIn_of _ (by decide +kernel)) ggX2_beside_X2_isBelow
set_option maxRecDepth 20000 in
theorem ggX2_beside_X2_nodeBesideWay : GoodIn wsX2_beside wsX2_nodeBesideWay := goodIn_r _ [16] (by decide +kernel) (by decide +kernel)
set_option maxRecDepth 20000 in
theorem gX2_beside_X2_nodeBesideWay : GoodIn wsX2_beside (va_wsS RX2 121 yX2_nodeBesideWay wsX2_nodeBesideWay) := goodIn_app (goodIn_of _ (by decide +kernel)) ggX2_beside_X2_nodeBesideWay
set_option maxRecDepth 20000 in
theorem ggX2_beside_X1_hasNode : GoodIn wsX2_beside wsX1_hasNode := goodIn_r _ [20, 21, 22, 10, 11, 12, 44, 45, 46, 47, 48, 49] (by decide +kernel) (by decide +kernel)
set_option maxRecDepth 20000 in
theorem gX2_beside_X1_hasNode : GoodIn wsX2_beside (wsV RX2 115 RX1 yX1_hasNode wsX1_hasNode) := goodIn_app (goodIn_of _ (by decide +kernel)) ggX2_beside_X1_hasNode
set_option maxRecDepth 20000 in
theorem ggX2_beside_X1_placeOfNode : GoodIn wsX2_beside wsX1_placeOfNode := goodIn_r _ [26, 9, 27, 28, 29, 7, 30, 31, 44, 45, 46, 47, 48, 49] (by decide +kernel) (by decide +kernel)
set_option maxRecDepth 20000 in
theorem gX2_beside_X1_placeOfNode : GoodIn wsX2_beside (wsV RX2 118 RX1 yX1_placeOfNode wsX1_placeOfNode) := goodIn_app (goodIn_of _ (by decide +kernel)) ggX2_beside_X1_placeOfNode
theorem dX2_beside_0 : decode cX2_beside 0 = .ok (.aload_n 0, 1) := by decide +kernel
theorem dX2_beside_1 : decode cX2_beside 1 = .ok (.getfield 23, 3) := by decide +kernel
theorem dX2_beside_4 : decode cX2_beside 4 = .ok (.iload_n 1, 1) := by decide +kernel
theorem dX2_beside_5 : decode cX2_beside 5 = .ok (.invokevirtual 92, 3) := by decide +kernel
theorem dX2_beside_8 : decode cX2_beside 8 = .ok (.ifCond .eq 12, 3) := by decide +kernel
theorem dX2_beside_11 : decode cX2_beside 11 = .ok (.iload_n 3, 1) := by decide +kernel
theorem dX2_beside_12 : decode cX2_beside 12 = .ok (.bipush 32, 2) := by decide +kernel
theorem dX2_beside_14 : decode cX2_beside 14 = .ok (.invokestatic 63, 3) := by decide +kernel
theorem dX2_beside_17 : decode cX2_beside 17 = .ok (.ifCond .ne 5, 3) := by decide +kernel
theorem dX2_beside_20 : decode cX2_beside 20 = .ok (.iconst (-1), 1) := by decide +kernel
theorem dX2_beside_21 : decode cX2_beside 21 = .ok (.ireturn, 1) := by decide +kernel
theorem dX2_beside_22 : decode cX2_beside 22 = .ok (.iconst 0, 1) := by decide +kernel
theorem dX2_beside_23 : decode cX2_beside 23 = .ok (.istore 4, 2) := by decide +kernel
theorem dX2_beside_25 : decode cX2_beside 25 = .ok (.iconst 0, 1) := by decide +kernel
theorem dX2_beside_26 : decode cX2_beside 26 = .ok (.istore 5, 2) := by decide +kernel
theorem dX2_beside_28 : decode cX2_beside 28 = .ok (.iload 5, 2) := by decide +kernel
theorem dX2_beside_30 : decode cX2_beside 30 = .ok (.aload_n 0, 1) := by decide +kernel
theorem dX2_beside_31 : decode cX2_beside 31 = .ok (.getfield 23, 3) := by decide +kernel
theorem dX2_beside_34 : decode cX2_beside 34 = .ok (.getfield 100, 3) := by decide +kernel
theorem dX2_beside_37 : decode cX2_beside 37 = .ok (.if_icmp .ge 59, 3) := by decide +kernel
theorem dX2_beside_40 : decode cX2_beside 40 = .ok (.iload_n 1, 1) := by decide +kernel
theorem dX2_beside_41 : decode cX2_beside 41 = .ok (.iload 5, 2) := by decide +kernel
theorem dX2_beside_43 : decode cX2_beside 43 = .ok (.invokestatic 121, 3) := by decide +kernel
theorem dX2_beside_46 : decode cX2_beside 46 = .ok (.istore 6, 2) := by decide +kernel
theorem dX2_beside_48 : decode cX2_beside 48 = .ok (.aload_n 0, 1) := by decide +kernel
theorem dX2_beside_49 : decode cX2_beside 49 = .ok (.getfield 23, 3) := by decide +kernel
theorem dX2_beside_52 : decode cX2_beside 52 = .ok (.iload 5, 2) := by decide +kernel
theorem dX2_beside_54 : decode cX2_beside 54 = .ok (.iload 6, 2) := by decide +kernel
theorem dX2_beside_56 : decode cX2_beside 56 = .ok (.invokevirtual 115, 3) := by decide +kernel
theorem dX2_beside_59 : decode cX2_beside 59 = .ok (.ifCond .eq 31, 3) := by decide +kernel
theorem dX2_beside_62 : decode cX2_beside 62 = .ok (.iload 4, 2) := by decide +kernel
theorem dX2_beside_64 : decode cX2_beside 64 = .ok (.iload_n 2, 1) := by decide +kernel
theorem dX2_beside_65 : decode cX2_beside 65 = .ok (.if_icmp .ne 22, 3) := by decide +kernel
theorem dX2_beside_68 : decode cX2_beside 68 = .ok (.aload_n 0, 1) := by decide +kernel
theorem dX2_beside_69 : decode cX2_beside 69 = .ok (.getfield 38, 3) := by decide +kernel
theorem dX2_beside_72 : decode cX2_beside 72 = .ok (.aload_n 0, 1) := by decide +kernel
theorem dX2_beside_73 : decode cX2_beside 73 = .ok (.getfield 23, 3) := by decide +kernel
theorem dX2_beside_76 : decode cX2_beside 76 = .ok (.iload 5, 2) := by decide +kernel
theorem dX2_beside_78 : decode cX2_beside 78 = .ok (.iload 6, 2) := by decide +kernel
theorem dX2_beside_80 : decode cX2_beside 80 = .ok (.invokevirtual 118, 3) := by decide +kernel
theorem dX2_beside_83 : decode cX2_beside 83 = .ok (.iload_n 3, 1) := by decide +kernel
theorem dX2_beside_84 : decode cX2_beside 84 = .ok (.iadd, 1) := by decide +kernel
theorem dX2_beside_85 : decode cX2_beside 85 = .ok (.iaload, 1) := by decide +kernel
theorem dX2_beside_86 : decode cX2_beside 86 = .ok (.ireturn, 1) := by decide +kernel
theorem dX2_beside_87 : decode cX2_beside 87 = .ok (.iinc 4 1, 3) := by decide +kernel
theorem dX2_beside_90 : decode cX2_beside 90 = .ok (.iinc 5 1, 3) := by decide +kernel
theorem dX2_beside_93 : decode cX2_beside 93 = .ok (.goto (-65), 3) := by decide +kernel
theorem dX2_beside_96 : decode cX2_beside 96 = .ok (.iconst (-1), 1) := by decide +kernel
theorem dX2_beside_97 : decode cX2_beside 97 = .ok (.ireturn, 1) := by decide +kernel
theorem dX2_keep_0 : decode cX2_keep 0 = .ok (.aload_n 0, 1) := by decide +kernel
theorem dX2_keep_1 : decode cX2_keep 1 = .ok (.getfield 38, 3) := by decide +kernel
theorem dX2_keep_4 : decode cX2_keep 4 = .ok (.iconst 0, 1) := by decide +kernel
theorem dX2_keep_5 : decode cX2_keep 5 = .ok (.aload_n 0, 1) := by decide +kernel
theorem dX2_keep_6 : decode cX2_keep 6 = .ok (.getfield 48, 3) := by decide +kernel
theorem dX2_keep_9 : decode cX2_keep 9 = .ok (.iconst 0, 1) := by decide +kernel
theorem dX2_keep_10 : decode cX2_keep 10 = .ok (.aload_n 0, 1) := by decide +kernel
theorem dX2_keep_11 : decode cX2_keep 11 = .ok (.getfield 23, 3) := by decide +kernel
theorem dX2_keep_14 : decode cX2_keep 14 = .ok (.getfield 34, 3) := by decide +kernel
theorem dX2_keep_17 : decode cX2_keep 17 = .ok (.invokestatic 74, 3) := by decide +kernel
theorem dX2_keep_20 : decode cX2_keep 20 = .ok (.aload_n 0, 1) := by decide +kernel
theorem dX2_keep_21 : decode cX2_keep 21 = .ok (.getfield 42, 3) := by decide +kernel
theorem dX2_keep_24 : decode cX2_keep 24 = .ok (.iconst 0, 1) := by decide +kernel
theorem dX2_keep_25 : decode cX2_keep 25 = .ok (.aload_n 0, 1) := by decide +kernel
theorem dX2_keep_26 : decode cX2_keep 26 = .ok (.getfield 51, 3) := by decide +kernel
theorem dX2_keep_29 : decode cX2_keep 29 = .ok (.iconst 0, 1) := by decide +kernel
theorem dX2_keep_30 : decode cX2_keep 30 = .ok (.bipush 32, 2) := by decide +kernel
theorem dX2_keep_32 : decode cX2_keep 32 = .ok (.invokestatic 74, 3) := by decide +kernel
theorem dX2_keep_35 : decode cX2_keep 35 = .ok (.aload_n 0, 1) := by decide +kernel
theorem dX2_keep_36 : decode cX2_keep 36 = .ok (.iconst 1, 1) := by decide +kernel
theorem dX2_keep_37 : decode cX2_keep 37 = .ok (.putfield 124, 3) := by decide +kernel
theorem dX2_keep_40 : decode cX2_keep 40 = .ok (.aload_n 0, 1) := by decide +kernel
theorem dX2_keep_41 : decode cX2_keep 41 = .ok (.getfield 23, 3) := by decide +kernel
theorem dX2_keep_44 : decode cX2_keep 44 = .ok (.getfield 34, 3) := by decide +kernel
theorem dX2_keep_47 : decode cX2_keep 47 = .ok (.ireturn, 1) := by decide +kernel
set_option maxRecDepth 20000 in
theorem ggX2_back_X2_restoreDisk : GoodIn wsX2_back wsX2_restoreDisk := goodIn_r _ [6, 7, 8, 9, 10, 11, 12, 13, 14, 15, 16, 17, 18, 19, 20, 21, 22, 23, 24, 25, 26, 27, 28] (by decide +kernel) (by decide +kernel)
set_option maxRecDepth 20000 in
theorem gX2_back_X2_restoreDisk : GoodIn wsX2_back (wsV RX2 128 RX2 yX2_restoreDisk wsX2_restoreDisk) := goodIn_app (goodIn_of _ (by decide +kernel)) ggX2_back_X2_restoreDisk
theorem dX2_back_0 : decode cX2_back 0 = .ok (.aload_n 0, 1) := by decide +kernel
theorem dX2_back_1 : decode cX2_back 1 = .ok (.getfield 124, 3) := by decide +kernel
theorem dX2_back_4 : decode cX2_back 4 = .ok (.ifCond .eq 10, 3) := by decide +kernel
theorem dX2_back_7 : decode cX2_back 7 = .ok (.aload_n 0, 1) := by decide +kernel
theorem dX2_back_8 : decode cX2_back 8 = .ok (.invokevirtual 128, 3) := by decide +kernel
theorem dX2_back_11 : decode cX2_back 11 = .ok (.goto 4, 3) := by decide +kernel
theorem dX2_back_14 : decode cX2_back 14 = .ok (.iconst (-1), 1) := by decide +kernel
theorem dX2_back_15 : decode cX2_back 15 = .ok (.ireturn, 1) := by decide +kernel
set_option maxRecDepth 20000 in
theorem ggX2_open_X2_restoreDisk : GoodIn wsX2_open wsX2_restoreDisk := goodIn_r _ [12, 13, 14, 15, 16, 17, 18, 19, 20, 21, 22, 23, 24, 25, 26, 27, 28, 29, 30, 31, 32, 33, 34] (by decide +kernel) (by decide +kernel)
set_option maxRecDepth 20000 in
theorem gX2_open_X2_restoreDisk : GoodIn wsX2_open (wsV RX2 128 RX2 yX2_restoreDisk wsX2_restoreDisk) := goodIn_app (goodIn_of _ (by decide +kernel)) ggX2_open_X2_restoreDisk
theorem dX2_open_0 : decode cX2_open 0 = .ok (.aload_n 0, 1) := by decide +kernel
theorem dX2_open_1 : decode cX2_open 1 = .ok (.getfield 124, 3) := by decide +kernel
theorem dX2_open_4 : decode cX2_open 4 = .ok (.ifCond .ne 5, 3) := by decide +kernel
theorem dX2_open_7 : decode cX2_open 7 = .ok (.iconst (-1), 1) := by decide +kernel
theorem dX2_open_8 : decode cX2_open 8 = .ok (.ireturn, 1) := by decide +kernel
theorem dX2_open_9 : decode cX2_open 9 = .ok (.aload_n 0, 1) := by decide +kernel
theorem dX2_open_10 : decode cX2_open 10 = .ok (.getfield 51, 3) := by decide +kernel
theorem dX2_open_13 : decode cX2_open 13 = .ok (.iconst 0, 1) := by decide +kernel
theorem dX2_open_14 : decode cX2_open 14 = .ok (.aload_n 0, 1) := by decide +kernel
theorem dX2_open_15 : decode cX2_open 15 = .ok (.getfield 42, 3) := by decide +kernel
theorem dX2_open_18 : decode cX2_open 18 = .ok (.iconst 0, 1) := by decide +kernel
theorem dX2_open_19 : decode cX2_open 19 = .ok (.bipush 32, 2) := by decide +kernel
theorem dX2_open_21 : decode cX2_open 21 = .ok (.invokestatic 74, 3) := by decide +kernel
theorem dX2_open_24 : decode cX2_open 24 = .ok (.aload_n 0, 1) := by decide +kernel
theorem dX2_open_25 : decode cX2_open 25 = .ok (.invokevirtual 128, 3) := by decide +kernel
theorem dX2_open_28 : decode cX2_open 28 = .ok (.ireturn, 1) := by decide +kernel
set_option maxRecDepth 20000 in
theorem ggX2_hash_X2_isBelow : GoodIn wsX2_hash wsX2_isBelow := goodIn_r _ [6] (by decide +kernel) (by decide +kernel)
set_option maxRecDepth 20000 in
theorem gX2_hash_X2_isBelow : GoodIn wsX2_hash (va_wsS RX2 63 yX2_isBelow wsX2_isBelow) := goodIn_app (goodIn_of _ (by decide +kernel)) ggX2_hash_X2_isBelow
set_option maxRecDepth 20000 in
theorem ggX2_hash_X0_begin : GoodIn wsX2_hash wsX0_begin := goodIn_r _ [11, 12, 13, 14, 15, 16, 17, 18, 58, 59, 60] (by decide +kernel) (by decide +kernel)
set_option maxRecDepth 20000 in
theorem gX2_hash_X0_begin : GoodIn wsX2_hash (wsV RX2 131 RX0 yX0_begin wsX0_begin) := goodIn_app (goodIn_of _ (by decide +kernel)) ggX2_hash_X0_begin
set_option maxRecDepth 20000 in
theorem ggX2_hash_X0_addRow : GoodIn wsX2_hash wsX0_addRow := goodIn_r _ [22, 23, 24, 25, 10, 26, 18, 27, 28, 29, 30, 31, 32, 33, 34, 35, 13, 36, 58, 59, 60] (by decide +kernel) (by decide +kernel)
set_option maxRecDepth 20000 in
theorem gX2_hash_X0_addRow : GoodIn wsX2_hash (wsV RX2 134 RX0 yX0_addRow wsX0_addRow) := goodIn_app (goodIn_of _ (by decide +kernel)) ggX2_hash_X0_addRow
set_option maxRecDepth 20000 in
theorem ggX2_hash_X0_finish : GoodIn wsX2_hash wsX0_finish := goodIn_r _ [40, 41, 18, 23, 24, 25, 10, 26, 27, 28, 29, 30, 31, 32, 33, 34, 35, 13, 36, 58, 59, 60] (by decide +kernel) (by decide +kernel)
set_option maxRecDepth 20000 in
theorem gX2_hash_X0_finish : GoodIn wsX2_hash (wsV RX2 138 RX0 yX0_finish wsX0_finish) := goodIn_app (goodIn_of _ (by decide +kernel)) ggX2_hash_X0_finish
set_option maxRecDepth 20000 in
theorem ggX2_hash_X0_resultByte : GoodIn wsX2_hash wsX0_resultByte := goodIn_r _ [45, 13, 58, 59, 60] (by decide +kernel) (by decide +kernel)
set_option maxRecDepth 20000 in
theorem gX2_hash_X0_resultByte : GoodIn wsX2_hash (wsV RX2 141 RX0 yX0_resultByte wsX0_resultByte) := goodIn_app (goodIn_of _ (by decide +kernel)) ggX2_hash_X0_resultByte
theorem dX2_hash_0 : decode cX2_hash 0 = .ok (.iload_n 1, 1) := by decide +kernel
theorem dX2_hash_1 : decode cX2_hash 1 = .ok (.ifCond .lt 18, 3) := by decide +kernel
theorem dX2_hash_4 : decode cX2_hash 4 = .ok (.iload_n 1, 1) := by decide +kernel
theorem dX2_hash_5 : decode cX2_hash 5 = .ok (.bipush 64, 2) := by decide +kernel
theorem dX2_hash_7 : decode cX2_hash 7 = .ok (.if_icmp .gt 12, 3) := by decide +kernel
theorem dX2_hash_10 : decode cX2_hash 10 = .ok (.iload_n 2, 1) := by decide +kernel
theorem dX2_hash_11 : decode cX2_hash 11 = .ok (.bipush 32, 2) := by decide +kernel
theorem dX2_hash_13 : decode cX2_hash 13 = .ok (.invokestatic 63, 3) := by decide +kernel
theorem dX2_hash_16 : decode cX2_hash 16 = .ok (.ifCond .ne 5, 3) := by decide +kernel
theorem dX2_hash_19 : decode cX2_hash 19 = .ok (.iconst (-1), 1) := by decide +kernel
theorem dX2_hash_20 : decode cX2_hash 20 = .ok (.ireturn, 1) := by decide +kernel
theorem dX2_hash_21 : decode cX2_hash 21 = .ok (.aload_n 0, 1) := by decide +kernel
theorem dX2_hash_22 : decode cX2_hash 22 = .ok (.getfield 30, 3) := by decide +kernel
theorem dX2_hash_25 : decode cX2_hash 25 = .ok (.invokevirtual 131, 3) := by decide +kernel
theorem dX2_hash_28 : decode cX2_hash 28 = .ok (.aload_n 0, 1) := by decide +kernel
theorem dX2_hash_29 : decode cX2_hash 29 = .ok (.getfield 30, 3) := by decide +kernel
theorem dX2_hash_32 : decode cX2_hash 32 = .ok (.aload_n 0, 1) := by decide +kernel
theorem dX2_hash_33 : decode cX2_hash 33 = .ok (.getfield 45, 3) := by decide +kernel
theorem dX2_hash_36 : decode cX2_hash 36 = .ok (.iconst 0, 1) := by decide +kernel
theorem dX2_hash_37 : decode cX2_hash 37 = .ok (.iload_n 1, 1) := by decide +kernel
theorem dX2_hash_38 : decode cX2_hash 38 = .ok (.invokevirtual 134, 3) := by decide +kernel
theorem dX2_hash_41 : decode cX2_hash 41 = .ok (.aload_n 0, 1) := by decide +kernel
theorem dX2_hash_42 : decode cX2_hash 42 = .ok (.getfield 30, 3) := by decide +kernel
theorem dX2_hash_45 : decode cX2_hash 45 = .ok (.invokevirtual 138, 3) := by decide +kernel
theorem dX2_hash_48 : decode cX2_hash 48 = .ok (.aload_n 0, 1) := by decide +kernel
theorem dX2_hash_49 : decode cX2_hash 49 = .ok (.getfield 30, 3) := by decide +kernel
theorem dX2_hash_52 : decode cX2_hash 52 = .ok (.iload_n 2, 1) := by decide +kernel
theorem dX2_hash_53 : decode cX2_hash 53 = .ok (.invokevirtual 141, 3) := by decide +kernel
theorem dX2_hash_56 : decode cX2_hash 56 = .ok (.ireturn, 1) := by decide +kernel
theorem dX2_told_0 : decode cX2_told 0 = .ok (.iload_n 1, 1) := by decide +kernel
theorem dX2_told_1 : decode cX2_told 1 = .ok (.tableswitch 54 0 3 #[31, 39, 44, 49], 31) := by decide +kernel
theorem dX2_told_32 : decode cX2_told 32 = .ok (.aload_n 0, 1) := by decide +kernel
theorem dX2_told_33 : decode cX2_told 33 = .ok (.getfield 23, 3) := by decide +kernel
theorem dX2_told_36 : decode cX2_told 36 = .ok (.getfield 109, 3) := by decide +kernel
theorem dX2_told_39 : decode cX2_told 39 = .ok (.ireturn, 1) := by decide +kernel
theorem dX2_told_40 : decode cX2_told 40 = .ok (.aload_n 0, 1) := by decide +kernel
theorem dX2_told_41 : decode cX2_told 41 = .ok (.getfield 80, 3) := by decide +kernel
theorem dX2_told_44 : decode cX2_told 44 = .ok (.ireturn, 1) := by decide +kernel
theorem dX2_told_45 : decode cX2_told 45 = .ok (.aload_n 0, 1) := by decide +kernel
theorem dX2_told_46 : decode cX2_told 46 = .ok (.getfield 89, 3) := by decide +kernel
theorem dX2_told_49 : decode cX2_told 49 = .ok (.ireturn, 1) := by decide +kernel
theorem dX2_told_50 : decode cX2_told 50 = .ok (.aload_n 0, 1) := by decide +kernel
theorem dX2_told_51 : decode cX2_told 51 = .ok (.getfield 83, 3) := by decide +kernel
theorem dX2_told_54 : decode cX2_told 54 = .ok (.ireturn, 1) := by decide +kernel
theorem dX2_told_55 : decode cX2_told 55 = .ok (.iconst (-1), 1) := by decide +kernel
theorem dX2_told_56 : decode cX2_told 56 = .ok (.ireturn, 1) := by decide +kernel
theorem dX2_isBelow_0 : decode cX2_isBelow 0 = .ok (.iload_n 0, 1) := by decide +kernel
theorem dX2_isBelow_1 : decode cX2_isBelow 1 = .ok (.ifCond .lt 12, 3) := by decide +kernel
theorem dX2_isBelow_4 : decode cX2_isBelow 4 = .ok (.iload_n 0, 1) := by decide +kernel
theorem dX2_isBelow_5 : decode cX2_isBelow 5 = .ok (.iload_n 1, 1) := by decide +kernel
theorem dX2_isBelow_6 : decode cX2_isBelow 6 = .ok (.if_icmp .ge 7, 3) := by decide +kernel
theorem dX2_isBelow_9 : decode cX2_isBelow 9 = .ok (.iconst 1, 1) := by decide +kernel
theorem dX2_isBelow_10 : decode cX2_isBelow 10 = .ok (.goto 4, 3) := by decide +kernel
theorem dX2_isBelow_13 : decode cX2_isBelow 13 = .ok (.iconst 0, 1) := by decide +kernel
theorem dX2_isBelow_14 : decode cX2_isBelow 14 = .ok (.ireturn, 1) := by decide +kernel
theorem dX2_nodeBesideWay_0 : decode cX2_nodeBesideWay 0 = .ok (.iload_n 0, 1) := by decide +kernel
theorem dX2_nodeBesideWay_1 : decode cX2_nodeBesideWay 1 = .ok (.iload_n 1, 1) := by decide +kernel
theorem dX2_nodeBesideWay_2 : decode cX2_nodeBesideWay 2 = .ok (.ishr, 1) := by decide +kernel
theorem dX2_nodeBesideWay_3 : decode cX2_nodeBesideWay 3 = .ok (.iconst 1, 1) := by decide +kernel
theorem dX2_nodeBesideWay_4 : decode cX2_nodeBesideWay 4 = .ok (.ixor, 1) := by decide +kernel
theorem dX2_nodeBesideWay_5 : decode cX2_nodeBesideWay 5 = .ok (.ireturn, 1) := by decide +kernel
theorem dX2_headByteAsTold_0 : decode cX2_headByteAsTold 0 = .ok (.iload_n 1, 1) := by decide +kernel
theorem dX2_headByteAsTold_1 : decode cX2_headByteAsTold 1 = .ok (.tableswitch 48 0 3 #[31, 34, 37, 45], 31) := by decide +kernel
theorem dX2_headByteAsTold_32 : decode cX2_headByteAsTold 32 = .ok (.bipush 83, 2) := by decide +kernel
theorem dX2_headByteAsTold_34 : decode cX2_headByteAsTold 34 = .ok (.ireturn, 1) := by decide +kernel
theorem dX2_headByteAsTold_35 : decode cX2_headByteAsTold 35 = .ok (.bipush 73, 2) := by decide +kernel
theorem dX2_headByteAsTold_37 : decode cX2_headByteAsTold 37 = .ok (.ireturn, 1) := by decide +kernel
theorem dX2_headByteAsTold_38 : decode cX2_headByteAsTold 38 = .ok (.aload_n 0, 1) := by decide +kernel
theorem dX2_headByteAsTold_39 : decode cX2_headByteAsTold 39 = .ok (.getfield 23, 3) := by decide +kernel
theorem dX2_headByteAsTold_42 : decode cX2_headByteAsTold 42 = .ok (.getfield 109, 3) := by decide +kernel
theorem dX2_headByteAsTold_45 : decode cX2_headByteAsTold 45 = .ok (.ireturn, 1) := by decide +kernel
theorem dX2_headByteAsTold_46 : decode cX2_headByteAsTold 46 = .ok (.bipush 64, 2) := by decide +kernel
theorem dX2_headByteAsTold_48 : decode cX2_headByteAsTold 48 = .ok (.ireturn, 1) := by decide +kernel
theorem dX2_headByteAsTold_49 : decode cX2_headByteAsTold 49 = .ok (.iconst 0, 1) := by decide +kernel
theorem dX2_headByteAsTold_50 : decode cX2_headByteAsTold 50 = .ok (.ireturn, 1) := by decide +kernel
set_option maxRecDepth 20000 in
theorem ggX2_hashNode_X0_begin : GoodIn wsX2_hashNode wsX0_begin := goodIn_r _ [8, 9, 10, 11, 12, 13, 14, 15, 76, 77, 78] (by decide +kernel) (by decide +kernel)
set_option maxRecDepth 20000 in
theorem gX2_hashNode_X0_begin : GoodIn wsX2_hashNode (wsV RX2 131 RX0 yX0_begin wsX0_begin) := goodIn_app (goodIn_of _ (by decide +kernel)) ggX2_hashNode_X0_begin
set_option maxRecDepth 20000 in
theorem ggX2_hashNode_X0_addByte : GoodIn wsX2_hashNode wsX0_addByte := goodIn_r _ [19, 15, 20, 21, 22, 23, 7, 24, 25, 26, 27, 28, 10, 29, 76, 77, 78] (by decide +kernel) (by decide +kernel)
set_option maxRecDepth 20000 in
theorem gX2_hashNode_X0_addByte : GoodIn wsX2_hashNode (wsV RX2 144 RX0 yX0_addByte wsX0_addByte) := goodIn_app (goodIn_of _ (by decide +kernel)) ggX2_hashNode_X0_addByte
set_option maxRecDepth 20000 in
theorem ggX2_hashNode_X1_placeOfPage : GoodIn wsX2_hashNode wsX1_placeOfPage := goodIn_r _ [34] (by decide +kernel) (by decide +kernel)
set_option maxRecDepth 20000 in
theorem gX2_hashNode_X1_placeOfPage : GoodIn wsX2_hashNode (wsV RX2 71 RX1 yX1_placeOfPage wsX1_placeOfPage) := goodIn_app (goodIn_of _ (by decide +kernel)) ggX2_hashNode_X1_placeOfPage
set_option maxRecDepth 20000 in
theorem ggX2_hashNode_X0_addRow : GoodIn wsX2_hashNode wsX0_addRow := goodIn_r _ [38, 39, 17, 18, 7, 19, 15, 20, 21, 22, 23, 24, 25, 26, 27, 28, 10, 29, 76, 77, 78] (by decide +kernel) (by decide +kernel)
set_option maxRecDepth 20000 in
theorem gX2_hashNode_X0_addRow : GoodIn wsX2_hashNode (wsV RX2 134 RX0 yX0_addRow wsX0_addRow) := goodIn_app (goodIn_of _ (by decide +kernel)) ggX2_hashNode_X0_addRow
set_option maxRecDepth 20000 in
theorem ggX2_hashNode_X1_hasNode : GoodIn wsX2_hashNode wsX1_hasNode := goodIn_r _ [43, 44, 45, 46, 47, 48, 79, 80, 81, 82, 83, 84] (by decide +kernel) (by decide +kernel)
set_option maxRecDepth 20000 in
theorem gX2_hashNode_X1_hasNode : GoodIn wsX2_hashNode (wsV RX2 115 RX1 yX1_hasNode wsX1_hasNode) := goodIn_app (goodIn_of _ (by decide +kernel)) ggX2_hashNode_X1_hasNode
set_option maxRecDepth 20000 in
theorem ggX2_hashNode_X1_placeOfNode : GoodIn wsX2_hashNode wsX1_placeOfNode := goodIn_r _ [52, 53, 54, 55, 56, 33, 57, 58, 79, 80, 81, 82, 83, 84] (by decide +kernel) (by decide +kernel)
set_option maxRecDepth 20000 in
theorem gX2_hashNode_X1_placeOfNode : GoodIn wsX2_hashNode (wsV RX2 118 RX1 yX1_placeOfNode wsX1_placeOfNode) := goodIn_app (goodIn_of _ (by decide +kernel)) ggX2_hashNode_X1_placeOfNode
set_option maxRecDepth 20000 in
theorem ggX2_hashNode_X0_finish : GoodIn wsX2_hashNode wsX0_finish := goodIn_r _ [62, 63, 15, 39, 17, 18, 7, 19, 20, 21, 22, 23, 24, 25, 26, 27, 28, 10, 29, 76, 77, 78] (by decide +kernel) (by decide +kernel)
set_option maxRecDepth 20000 in
theorem gX2_hashNode_X0_finish : GoodIn wsX2_hashNode (wsV RX2 138 RX0 yX0_finish wsX0_finish) := goodIn_app (goodIn_of _ (by decide +kernel)) ggX2_hashNode_X0_finish
theorem dX2_hashNode_0 : decode cX2_hashNode 0 = .ok (.aload_n 0, 1) := by decide +kernel
theorem dX2_hashNode_1 : decode cX2_hashNode 1 = .ok (.getfield 30, 3) := by decide +kernel
theorem dX2_hashNode_4 : decode cX2_hashNode 4 = .ok (.invokevirtual 131, 3) := by decide +kernel
theorem dX2_hashNode_7 : decode cX2_hashNode 7 = .ok (.aload_n 0, 1) := by decide +kernel
theorem dX2_hashNode_8 : decode cX2_hashNode 8 = .ok (.getfield 30, 3) := by decide +kernel
theorem dX2_hashNode_11 : decode cX2_hashNode 11 = .ok (.iload_n 1, 1) := by decide +kernel
theorem dX2_hashNode_12 : decode cX2_hashNode 12 = .ok (.invokevirtual 144, 3) := by decide +kernel
theorem dX2_hashNode_15 : decode cX2_hashNode 15 = .ok (.aload_n 0, 1) := by decide +kernel
theorem dX2_hashNode_16 : decode cX2_hashNode 16 = .ok (.getfield 30, 3) := by decide +kernel
theorem dX2_hashNode_19 : decode cX2_hashNode 19 = .ok (.iload_n 2, 1) := by decide +kernel
theorem dX2_hashNode_20 : decode cX2_hashNode 20 = .ok (.invokevirtual 144, 3) := by decide +kernel
theorem dX2_hashNode_23 : decode cX2_hashNode 23 = .ok (.iload_n 1, 1) := by decide +kernel
theorem dX2_hashNode_24 : decode cX2_hashNode 24 = .ok (.ifCond .ne 27, 3) := by decide +kernel
theorem dX2_hashNode_27 : decode cX2_hashNode 27 = .ok (.aload_n 0, 1) := by decide +kernel
theorem dX2_hashNode_28 : decode cX2_hashNode 28 = .ok (.getfield 30, 3) := by decide +kernel
theorem dX2_hashNode_31 : decode cX2_hashNode 31 = .ok (.aload_n 0, 1) := by decide +kernel
theorem dX2_hashNode_32 : decode cX2_hashNode 32 = .ok (.getfield 38, 3) := by decide +kernel
theorem dX2_hashNode_35 : decode cX2_hashNode 35 = .ok (.aload_n 0, 1) := by decide +kernel
theorem dX2_hashNode_36 : decode cX2_hashNode 36 = .ok (.getfield 23, 3) := by decide +kernel
theorem dX2_hashNode_39 : decode cX2_hashNode 39 = .ok (.iload_n 2, 1) := by decide +kernel
theorem dX2_hashNode_40 : decode cX2_hashNode 40 = .ok (.invokevirtual 71, 3) := by decide +kernel
theorem dX2_hashNode_43 : decode cX2_hashNode 43 = .ok (.bipush 64, 2) := by decide +kernel
theorem dX2_hashNode_45 : decode cX2_hashNode 45 = .ok (.invokevirtual 134, 3) := by decide +kernel
theorem dX2_hashNode_48 : decode cX2_hashNode 48 = .ok (.goto 55, 3) := by decide +kernel
theorem dX2_hashNode_51 : decode cX2_hashNode 51 = .ok (.aload_n 0, 1) := by decide +kernel
theorem dX2_hashNode_52 : decode cX2_hashNode 52 = .ok (.getfield 23, 3) := by decide +kernel
theorem dX2_hashNode_55 : decode cX2_hashNode 55 = .ok (.iload_n 1, 1) := by decide +kernel
theorem dX2_hashNode_56 : decode cX2_hashNode 56 = .ok (.iconst 1, 1) := by decide +kernel
theorem dX2_hashNode_57 : decode cX2_hashNode 57 = .ok (.isub, 1) := by decide +kernel
theorem dX2_hashNode_58 : decode cX2_hashNode 58 = .ok (.iconst 2, 1) := by decide +kernel
theorem dX2_hashNode_59 : decode cX2_hashNode 59 = .ok (.iload_n 2, 1) := by decide +kernel
theorem dX2_hashNode_60 : decode cX2_hashNode 60 = .ok (.imul, 1) := by decide +kernel
theorem dX2_hashNode_61 : decode cX2_hashNode 61 = .ok (.iconst 1, 1) := by decide +kernel
theorem dX2_hashNode_62 : decode cX2_hashNode 62 = .ok (.iadd, 1) := by decide +kernel
theorem dX2_hashNode_63 : decode cX2_hashNode 63 = .ok (.invokevirtual 115, 3) := by decide +kernel
theorem dX2_hashNode_66 : decode cX2_hashNode 66 = .ok (.ifCond .eq 7, 3) := by decide +kernel
theorem dX2_hashNode_69 : decode cX2_hashNode 69 = .ok (.iconst 2, 1) := by decide +kernel
theorem dX2_hashNode_70 : decode cX2_hashNode 70 = .ok (.goto 4, 3) := by decide +kernel
theorem dX2_hashNode_73 : decode cX2_hashNode 73 = .ok (.iconst 1, 1) := by decide +kernel
theorem dX2_hashNode_74 : decode cX2_hashNode 74 = .ok (.istore_n 3, 1) := by decide +kernel
theorem dX2_hashNode_75 : decode cX2_hashNode 75 = .ok (.aload_n 0, 1) := by decide +kernel
theorem dX2_hashNode_76 : decode cX2_hashNode 76 = .ok (.getfield 30, 3) := by decide +kernel
theorem dX2_hashNode_79 : decode cX2_hashNode 79 = .ok (.aload_n 0, 1) := by decide +kernel
theorem dX2_hashNode_80 : decode cX2_hashNode 80 = .ok (.getfield 38, 3) := by decide +kernel
theorem dX2_hashNode_83 : decode cX2_hashNode 83 = .ok (.aload_n 0, 1) := by decide +kernel
theorem dX2_hashNode_84 : decode cX2_hashNode 84 = .ok (.getfield 23, 3) := by decide +kernel
theorem dX2_hashNode_87 : decode cX2_hashNode 87 = .ok (.iload_n 1, 1) := by decide +kernel
theorem dX2_hashNode_88 : decode cX2_hashNode 88 = .ok (.iconst 1, 1) := by decide +kernel
theorem dX2_hashNode_89 : decode cX2_hashNode 89 = .ok (.isub, 1) := by decide +kernel
theorem dX2_hashNode_90 : decode cX2_hashNode 90 = .ok (.iconst 2, 1) := by decide +kernel
theorem dX2_hashNode_91 : decode cX2_hashNode 91 = .ok (.iload_n 2, 1) := by decide +kernel
theorem dX2_hashNode_92 : decode cX2_hashNode 92 = .ok (.imul, 1) := by decide +kernel
theorem dX2_hashNode_93 : decode cX2_hashNode 93 = .ok (.invokevirtual 118, 3) := by decide +kernel
theorem dX2_hashNode_96 : decode cX2_hashNode 96 = .ok (.iload_n 3, 1) := by decide +kernel
theorem dX2_hashNode_97 : decode cX2_hashNode 97 = .ok (.bipush 32, 2) := by decide +kernel
theorem dX2_hashNode_99 : decode cX2_hashNode 99 = .ok (.imul, 1) := by decide +kernel
theorem dX2_hashNode_100 : decode cX2_hashNode 100 = .ok (.invokevirtual 134, 3) := by decide +kernel
theorem dX2_hashNode_103 : decode cX2_hashNode 103 = .ok (.aload_n 0, 1) := by decide +kernel
theorem dX2_hashNode_104 : decode cX2_hashNode 104 = .ok (.getfield 30, 3) := by decide +kernel
theorem dX2_hashNode_107 : decode cX2_hashNode 107 = .ok (.invokevirtual 138, 3) := by decide +kernel
theorem dX2_hashNode_110 : decode cX2_hashNode 110 = .ok (.return_, 1) := by decide +kernel
set_option maxRecDepth 20000 in
theorem ggX2_hashHeadAndLastNode_X0_begin : GoodIn wsX2_hashHeadAndLastNode wsX0_begin := goodIn_r _ [9, 10, 11, 12, 13, 14, 15, 16, 69, 70, 71] (by decide +kernel) (by decide +kernel)
set_option maxRecDepth 20000 in
theorem gX2_hashHeadAndLastNode_X0_begin : GoodIn wsX2_hashHeadAndLastNode (wsV RX2 131 RX0 yX0_begin wsX0_begin) := goodIn_app (goodIn_of _ (by decide +kernel)) ggX2_hashHeadAndLastNode_X0_begin
set_option maxRecDepth 20000 in
theorem ggX2_hashHeadAndLastNode_X0_addRow : GoodIn wsX2_hashHeadAndLastNode wsX0_addRow := goodIn_r _ [20, 21, 22, 23, 8, 24, 16, 25, 26, 27, 28, 29, 30, 31, 32, 33, 11, 34, 69, 70, 71] (by decide +kernel) (by decide +kernel)
set_option maxRecDepth 20000 in
theorem gX2_hashHeadAndLastNode_X0_addRow : GoodIn wsX2_hashHeadAndLastNode (wsV RX2 134 RX0 yX0_addRow wsX0_addRow) := goodIn_app (goodIn_of _ (by decide +kernel)) ggX2_hashHeadAndLastNode_X0_addRow
set_option maxRecDepth 20000 in
theorem ggX2_hashHeadAndLastNode_X1_placeOfNode : GoodIn wsX2_hashHeadAndLastNode wsX1_placeOfNode := goodIn_r _ [39, 40, 41, 42, 43, 38, 44, 45, 63, 64, 65, 66, 67, 68] (by decide +kernel) (by decide +kernel)
set_option maxRecDepth 20000 in
theorem gX2_hashHeadAndLastNode_X1_placeOfNode : GoodIn wsX2_hashHeadAndLastNode (wsV RX2 118 RX1 yX1_placeOfNode wsX1_placeOfNode) := goodIn_app (goodIn_of _ (by decide +kernel)) ggX2_hashHeadAndLastNode_X1_placeOfNode
set_option maxRecDepth 20000 in
theorem ggX2_hashHeadAndLastNode_X0_finish : GoodIn wsX2_hashHeadAndLastNode wsX0_finish := goodIn_r _ [49, 50, 16, 21, 22, 23, 8, 24, 25, 26, 27, 28, 29, 30, 31, 32, 33, 11, 34, 69, 70, 71] (by decide +kernel) (by decide +kernel)
set_option maxRecDepth 20000 in
theorem gX2_hashHeadAndLastNode_X0_finish : GoodIn wsX2_hashHeadAndLastNode (wsV RX2 138 RX0 yX0_finish wsX0_finish) := goodIn_app (goodIn_of _ (by decide +kernel)) ggX2_hashHeadAndLastNode_X0_finish
theorem dX2_hashHeadAndLastNode_0 : decode cX2_hashHeadAndLastNode 0 = .ok (.aload_n 0, 1) := by decide +kernel
theorem dX2_hashHeadAndLastNode_1 : decode cX2_hashHeadAndLastNode 1 = .ok (.getfield 30, 3) := by decide +kernel
theorem dX2_hashHeadAndLastNode_4 : decode cX2_hashHeadAndLastNode 4 = .ok (.invokevirtual 131, 3) := by decide +kernel
theorem dX2_hashHeadAndLastNode_7 : decode cX2_hashHeadAndLastNode 7 = .ok (.aload_n 0, 1) := by decide +kernel
theorem dX2_hashHeadAndLastNode_8 : decode cX2_hashHeadAndLastNode 8 = .ok (.getfield 30, 3) := by decide +kernel
theorem dX2_hashHeadAndLastNode_11 : decode cX2_hashHeadAndLastNode 11 = .ok (.aload_n 0, 1) := by decide +kernel
theorem dX2_hashHeadAndLastNode_12 : decode cX2_hashHeadAndLastNode 12 = .ok (.getfield 38, 3) := by decide +kernel
theorem dX2_hashHeadAndLastNode_15 : decode cX2_hashHeadAndLastNode 15 = .ok (.iconst 0, 1) := by decide +kernel
theorem dX2_hashHeadAndLastNode_16 : decode cX2_hashHeadAndLastNode 16 = .ok (.bipush 8, 2) := by decide +kernel
theorem dX2_hashHeadAndLastNode_18 : decode cX2_hashHeadAndLastNode 18 = .ok (.invokevirtual 134, 3) := by decide +kernel
theorem dX2_hashHeadAndLastNode_21 : decode cX2_hashHeadAndLastNode 21 = .ok (.aload_n 0, 1) := by decide +kernel
theorem dX2_hashHeadAndLastNode_22 : decode cX2_hashHeadAndLastNode 22 = .ok (.getfield 30, 3) := by decide +kernel
theorem dX2_hashHeadAndLastNode_25 : decode cX2_hashHeadAndLastNode 25 = .ok (.aload_n 0, 1) := by decide +kernel
theorem dX2_hashHeadAndLastNode_26 : decode cX2_hashHeadAndLastNode 26 = .ok (.getfield 38, 3) := by decide +kernel
theorem dX2_hashHeadAndLastNode_29 : decode cX2_hashHeadAndLastNode 29 = .ok (.aload_n 0, 1) := by decide +kernel
theorem dX2_hashHeadAndLastNode_30 : decode cX2_hashHeadAndLastNode 30 = .ok (.getfield 23, 3) := by decide +kernel
theorem dX2_hashHeadAndLastNode_33 : decode cX2_hashHeadAndLastNode 33 = .ok (.aload_n 0, 1) := by decide +kernel
theorem dX2_hashHeadAndLastNode_34 : decode cX2_hashHeadAndLastNode 34 = .ok (.getfield 23, 3) := by decide +kernel
theorem dX2_hashHeadAndLastNode_37 : decode cX2_hashHeadAndLastNode 37 = .ok (.getfield 100, 3) := by decide +kernel
theorem dX2_hashHeadAndLastNode_40 : decode cX2_hashHeadAndLastNode 40 = .ok (.iconst 1, 1) := by decide +kernel
theorem dX2_hashHeadAndLastNode_41 : decode cX2_hashHeadAndLastNode 41 = .ok (.isub, 1) := by decide +kernel
theorem dX2_hashHeadAndLastNode_42 : decode cX2_hashHeadAndLastNode 42 = .ok (.iconst 0, 1) := by decide +kernel
theorem dX2_hashHeadAndLastNode_43 : decode cX2_hashHeadAndLastNode 43 = .ok (.invokevirtual 118, 3) := by decide +kernel
theorem dX2_hashHeadAndLastNode_46 : decode cX2_hashHeadAndLastNode 46 = .ok (.bipush 32, 2) := by decide +kernel
theorem dX2_hashHeadAndLastNode_48 : decode cX2_hashHeadAndLastNode 48 = .ok (.invokevirtual 134, 3) := by decide +kernel
theorem dX2_hashHeadAndLastNode_51 : decode cX2_hashHeadAndLastNode 51 = .ok (.aload_n 0, 1) := by decide +kernel
theorem dX2_hashHeadAndLastNode_52 : decode cX2_hashHeadAndLastNode 52 = .ok (.getfield 30, 3) := by decide +kernel
theorem dX2_hashHeadAndLastNode_55 : decode cX2_hashHeadAndLastNode 55 = .ok (.invokevirtual 138, 3) := by decide +kernel
theorem dX2_hashHeadAndLastNode_58 : decode cX2_hashHeadAndLastNode 58 = .ok (.return_, 1) := by decide +kernel
set_option maxRecDepth 20000 in
theorem ggX2_faultAboveTree_X2_headByteAsTold : GoodIn wsX2_faultAboveTree wsX2_headByteAsTold := goodIn_r _ [8, 9, 10, 70, 71, 72, 73, 74, 75, 76, 77, 78, 79, 80, 81, 82, 83, 84, 85, 86, 87] (by decide +kernel) (by decide +kernel)
set_option maxRecDepth 20000 in
theorem gX2_faultAboveTree_X2_headByteAsTold : GoodIn wsX2_faultAboveTree (wsV RX2 147 RX2 yX2_headByteAsTold wsX2_headByteAsTold) := goodIn_app (goodIn_of _ (by decide +kernel)) ggX2_faultAboveTree_X2_headByteAsTold
set_option maxRecDepth 20000 in
theorem ggX2_faultAboveTree_X2_hashHeadAndLastNode : GoodIn wsX2_faultAboveTree wsX2_hashHeadAndLastNode := goodIn_r _ [14, 2, 1, 9, 15, 16, 17, 18, 19, 20, 21, 22, 23, 24, 25, 26, 27, 28, 29, 30, 31, 32, 33, 34, 35, 36, 37, 38, 39, 40, 41, 42, 43, 44, 45, 46, 47, 48, 49, 50, 51, 52, 53, 54, 55, 56, 57, 58, 59, 60, 61, 70, 71, 72, 73, 74, 75, 76, 77, 78, 79, 80, 81, 82, 83, 84, 85, 86, 87, 88, 89, 90] (by decide +kernel) (by decide +kernel)
set_option maxRecDepth 20000 in
theorem gX2_faultAboveTree_X2_hashHeadAndLastNode : GoodIn wsX2_faultAboveTree (wsV RX2 150 RX2 yX2_hashHeadAndLastNode wsX2_hashHeadAndLastNode) := goodIn_app (goodIn_of _ (by decide +kernel)) ggX2_faultAboveTree_X2_hashHeadAndLastNode
set_option maxRecDepth 20000 in
theorem ggX2_faultAboveTree_X0_resultIsAt : GoodIn wsX2_faultAboveTree wsX0_resultIsAt := goodIn_r _ [65, 66, 67, 68, 19, 69, 22, 88, 89, 90] (by decide +kernel) (by decide +kernel)
set_option maxRecDepth 20000 in
theorem gX2_faultAboveTree_X0_resultIsAt : GoodIn wsX2_faultAboveTree (wsV RX2 153 RX0 yX0_resultIsAt wsX0_resultIsAt) := goodIn_app (goodIn_of _ (by decide +kernel)) ggX2_faultAboveTree_X0_resultIsAt
theorem dX2_faultAboveTree_0 : decode cX2_faultAboveTree 0 = .ok (.iconst 0, 1) := by decide +kernel
theorem dX2_faultAboveTree_1 : decode cX2_faultAboveTree 1 = .ok (.istore_n 1, 1) := by decide +kernel
theorem dX2_faultAboveTree_2 : decode cX2_faultAboveTree 2 = .ok (.iload_n 1, 1) := by decide +kernel
theorem dX2_faultAboveTree_3 : decode cX2_faultAboveTree 3 = .ok (.bipush 8, 2) := by decide +kernel
theorem dX2_faultAboveTree_5 : decode cX2_faultAboveTree 5 = .ok (.if_icmp .ge 25, 3) := by decide +kernel
theorem dX2_faultAboveTree_8 : decode cX2_faultAboveTree 8 = .ok (.aload_n 0, 1) := by decide +kernel
theorem dX2_faultAboveTree_9 : decode cX2_faultAboveTree 9 = .ok (.getfield 38, 3) := by decide +kernel
theorem dX2_faultAboveTree_12 : decode cX2_faultAboveTree 12 = .ok (.iload_n 1, 1) := by decide +kernel
theorem dX2_faultAboveTree_13 : decode cX2_faultAboveTree 13 = .ok (.iaload, 1) := by decide +kernel
theorem dX2_faultAboveTree_14 : decode cX2_faultAboveTree 14 = .ok (.aload_n 0, 1) := by decide +kernel
theorem dX2_faultAboveTree_15 : decode cX2_faultAboveTree 15 = .ok (.iload_n 1, 1) := by decide +kernel
theorem dX2_faultAboveTree_16 : decode cX2_faultAboveTree 16 = .ok (.invokevirtual 147, 3) := by decide +kernel
theorem dX2_faultAboveTree_19 : decode cX2_faultAboveTree 19 = .ok (.if_icmp .eq 5, 3) := by decide +kernel
theorem dX2_faultAboveTree_22 : decode cX2_faultAboveTree 22 = .ok (.iconst 1, 1) := by decide +kernel
theorem dX2_faultAboveTree_23 : decode cX2_faultAboveTree 23 = .ok (.ireturn, 1) := by decide +kernel
theorem dX2_faultAboveTree_24 : decode cX2_faultAboveTree 24 = .ok (.iinc 1 1, 3) := by decide +kernel
theorem dX2_faultAboveTree_27 : decode cX2_faultAboveTree 27 = .ok (.goto (-25), 3) := by decide +kernel
theorem dX2_faultAboveTree_30 : decode cX2_faultAboveTree 30 = .ok (.aload_n 0, 1) := by decide +kernel
theorem dX2_faultAboveTree_31 : decode cX2_faultAboveTree 31 = .ok (.invokevirtual 150, 3) := by decide +kernel
theorem dX2_faultAboveTree_34 : decode cX2_faultAboveTree 34 = .ok (.aload_n 0, 1) := by decide +kernel
theorem dX2_faultAboveTree_35 : decode cX2_faultAboveTree 35 = .ok (.getfield 30, 3) := by decide +kernel
theorem dX2_faultAboveTree_38 : decode cX2_faultAboveTree 38 = .ok (.aload_n 0, 1) := by decide +kernel
theorem dX2_faultAboveTree_39 : decode cX2_faultAboveTree 39 = .ok (.getfield 42, 3) := by decide +kernel
theorem dX2_faultAboveTree_42 : decode cX2_faultAboveTree 42 = .ok (.iconst 0, 1) := by decide +kernel
theorem dX2_faultAboveTree_43 : decode cX2_faultAboveTree 43 = .ok (.invokevirtual 153, 3) := by decide +kernel
theorem dX2_faultAboveTree_46 : decode cX2_faultAboveTree 46 = .ok (.ifCond .eq 7, 3) := by decide +kernel
theorem dX2_faultAboveTree_49 : decode cX2_faultAboveTree 49 = .ok (.iconst 0, 1) := by decide +kernel
theorem dX2_faultAboveTree_50 : decode cX2_faultAboveTree 50 = .ok (.goto 4, 3) := by decide +kernel
theorem dX2_faultAboveTree_53 : decode cX2_faultAboveTree 53 = .ok (.iconst 2, 1) := by decide +kernel
theorem dX2_faultAboveTree_54 : decode cX2_faultAboveTree 54 = .ok (.ireturn, 1) := by decide +kernel
set_option maxRecDepth 20000 in
theorem ggX2_faultOfNode_X2_hashNode : GoodIn wsX2_faultOfNode wsX2_hashNode := goodIn_r _ [8, 1, 2, 3, 9, 10, 11, 12, 13, 14, 15, 16, 17, 18, 19, 20, 21, 22, 23, 24, 25, 26, 27, 28, 29, 30, 31, 32, 33, 34, 35, 36, 37, 38, 39, 40, 41, 42, 43, 44, 45, 46, 47, 48, 49, 50, 51, 7, 52, 53, 54, 55, 56, 57, 58, 59, 60, 61, 62, 63, 64, 65, 66, 67, 76, 77, 78, 79, 80, 81, 82, 83, 84, 85, 86, 87, 88, 89, 90, 91, 92, 93, 94, 95, 96] (by decide +kernel) (by decide +kernel)
set_option maxRecDepth 20000 in
theorem gX2_faultOfNode_X2_hashNode : GoodIn wsX2_faultOfNode (wsV RX2 157 RX2 yX2_hashNode wsX2_hashNode) := goodIn_app (goodIn_of _ (by decide +kernel)) ggX2_faultOfNode_X2_hashNode
set_option maxRecDepth 20000 in
theorem ggX2_faultOfNode_X1_placeOfNode : GoodIn wsX2_faultOfNode wsX1_placeOfNode := goodIn_r _ [56, 57, 58, 59, 60, 38, 61, 62, 91, 92, 93, 94, 95, 96] (by decide +kernel) (by decide +kernel)
set_option maxRecDepth 20000 in
theorem gX2_faultOfNode_X1_placeOfNode : GoodIn wsX2_faultOfNode (wsV RX2 118 RX1 yX1_placeOfNode wsX1_placeOfNode) := goodIn_app (goodIn_of _ (by decide +kernel)) ggX2_faultOfNode_X1_placeOfNode
set_option maxRecDepth 20000 in
theorem ggX2_faultOfNode_X0_resultIsAt : GoodIn wsX2_faultOfNode wsX0_resultIsAt := goodIn_r _ [71, 72, 73, 74, 12, 75, 15, 88, 89, 90] (by decide +kernel) (by decide +kernel)
set_option maxRecDepth 20000 in
theorem gX2_faultOfNode_X0_resultIsAt : GoodIn wsX2_faultOfNode (wsV RX2 153 RX0 yX0_resultIsAt wsX0_resultIsAt) := goodIn_app (goodIn_of _ (by decide +kernel)) ggX2_faultOfNode_X0_resultIsAt
theorem dX2_faultOfNode_0 : decode cX2_faultOfNode 0 = .ok (.aload_n 0, 1) := by decide +kernel
theorem dX2_faultOfNode_1 : decode cX2_faultOfNode 1 = .ok (.iload_n 1, 1) := by decide +kernel
theorem dX2_faultOfNode_2 : decode cX2_faultOfNode 2 = .ok (.iload_n 2, 1) := by decide +kernel
theorem dX2_faultOfNode_3 : decode cX2_faultOfNode 3 = .ok (.invokevirtual 157, 3) := by decide +kernel
theorem dX2_faultOfNode_6 : decode cX2_faultOfNode 6 = .ok (.aload_n 0, 1) := by decide +kernel
theorem dX2_faultOfNode_7 : decode cX2_faultOfNode 7 = .ok (.getfield 30, 3) := by decide +kernel
theorem dX2_faultOfNode_10 : decode cX2_faultOfNode 10 = .ok (.aload_n 0, 1) := by decide +kernel
theorem dX2_faultOfNode_11 : decode cX2_faultOfNode 11 = .ok (.getfield 38, 3) := by decide +kernel
theorem dX2_faultOfNode_14 : decode cX2_faultOfNode 14 = .ok (.aload_n 0, 1) := by decide +kernel
theorem dX2_faultOfNode_15 : decode cX2_faultOfNode 15 = .ok (.getfield 23, 3) := by decide +kernel
theorem dX2_faultOfNode_18 : decode cX2_faultOfNode 18 = .ok (.iload_n 1, 1) := by decide +kernel
theorem dX2_faultOfNode_19 : decode cX2_faultOfNode 19 = .ok (.iload_n 2, 1) := by decide +kernel
theorem dX2_faultOfNode_20 : decode cX2_faultOfNode 20 = .ok (.invokevirtual 118, 3) := by decide +kernel
theorem dX2_faultOfNode_23 : decode cX2_faultOfNode 23 = .ok (.invokevirtual 153, 3) := by decide +kernel
theorem dX2_faultOfNode_26 : decode cX2_faultOfNode 26 = .ok (.ifCond .eq 7, 3) := by decide +kernel
theorem dX2_faultOfNode_29 : decode cX2_faultOfNode 29 = .ok (.iconst 0, 1) := by decide +kernel
theorem dX2_faultOfNode_30 : decode cX2_faultOfNode 30 = .ok (.goto 6, 3) := by decide +kernel
theorem dX2_faultOfNode_33 : decode cX2_faultOfNode 33 = .ok (.iconst 3, 1) := by decide +kernel
theorem dX2_faultOfNode_34 : decode cX2_faultOfNode 34 = .ok (.iload_n 1, 1) := by decide +kernel
theorem dX2_faultOfNode_35 : decode cX2_faultOfNode 35 = .ok (.iadd, 1) := by decide +kernel
theorem dX2_faultOfNode_36 : decode cX2_faultOfNode 36 = .ok (.ireturn, 1) := by decide +kernel
set_option maxRecDepth 20000 in
theorem ggX2_surveyTree_X2_faultAboveTree : GoodIn wsX2_surveyTree wsX2_faultAboveTree := goodIn_r _ [9, 10, 11, 12, 13, 14, 15, 8, 16, 1, 17, 18, 19, 20, 21, 2, 22, 23, 24, 25, 26, 27, 28, 29, 30, 31, 32, 33, 34, 35, 36, 37, 38, 39, 40, 41, 42, 43, 44, 45, 46, 47, 48, 49, 50, 51, 52, 53, 54, 55, 56, 57, 58, 59, 60, 61, 62, 63, 64, 65, 66, 67, 68, 69, 70, 71, 72, 73, 74, 75, 98, 99, 100, 101, 102, 103, 104, 105, 106, 107, 108, 109, 110, 111, 112, 113, 114, 115, 116, 117, 118] (by decide +kernel) (by decide +kernel)
set_option maxRecDepth 20000 in
theorem gX2_surveyTree_X2_faultAboveTree : GoodIn wsX2_surveyTree (wsV RX2 96 RX2 yX2_faultAboveTree wsX2_faultAboveTree) := goodIn_app (goodIn_of _ (by decide +kernel)) ggX2_surveyTree_X2_faultAboveTree
set_option maxRecDepth 20000 in
theorem ggX2_surveyTree_X1_numberOfNode : GoodIn wsX2_surveyTree wsX1_numberOfNode := goodIn_r _ [61, 62, 110, 111, 112, 113, 114, 115] (by decide +kernel) (by decide +kernel)
set_option maxRecDepth 20000 in
theorem gX2_surveyTree_X1_numberOfNode : GoodIn wsX2_surveyTree (wsV RX2 112 RX1 yX1_numberOfNode wsX1_numberOfNode) := goodIn_app (goodIn_of _ (by decide +kernel)) ggX2_surveyTree_X1_numberOfNode
set_option maxRecDepth 20000 in
theorem ggX2_surveyTree_X2_faultOfNode : GoodIn wsX2_surveyTree wsX2_faultOfNode := goodIn_r _ [80, 11, 10, 1, 81, 82, 83, 8, 84, 22, 23, 24, 25, 26, 27, 28, 29, 30, 31, 32, 33, 85, 39, 40, 41, 42, 43, 44, 45, 46, 47, 48, 49, 50, 51, 86, 87, 88, 55, 89, 34, 35, 36, 37, 38, 90, 91, 92, 93, 94, 95, 96, 97, 52, 53, 54, 56, 57, 58, 59, 60, 61, 62, 63, 64, 65, 66, 67, 68, 69, 70, 71, 72, 73, 74, 75, 98, 99, 100, 101, 102, 103, 104, 105, 106, 107, 108, 109, 116, 117, 118, 110, 111, 112, 113, 114, 115] (by decide +kernel) (by decide +kernel)
set_option maxRecDepth 20000 in
theorem gX2_surveyTree_X2_faultOfNode : GoodIn wsX2_surveyTree (wsV RX2 103 RX2 yX2_faultOfNode wsX2_faultOfNode) := goodIn_app (goodIn_of _ (by decide +kernel)) ggX2_surveyTree_X2_faultOfNode
theorem dX2_surveyTree_0 : decode cX2_surveyTree 0 = .ok (.aload_n 0, 1) := by decide +kernel
theorem dX2_surveyTree_1 : decode cX2_surveyTree 1 = .ok (.invokevirtual 96, 3) := by decide +kernel
theorem dX2_surveyTree_4 : decode cX2_surveyTree 4 = .ok (.istore_n 1, 1) := by decide +kernel
theorem dX2_surveyTree_5 : decode cX2_surveyTree 5 = .ok (.aload_n 0, 1) := by decide +kernel
theorem dX2_surveyTree_6 : decode cX2_surveyTree 6 = .ok (.getfield 23, 3) := by decide +kernel
theorem dX2_surveyTree_9 : decode cX2_surveyTree 9 = .ok (.getfield 100, 3) := by decide +kernel
theorem dX2_surveyTree_12 : decode cX2_surveyTree 12 = .ok (.iconst 1, 1) := by decide +kernel
theorem dX2_surveyTree_13 : decode cX2_surveyTree 13 = .ok (.isub, 1) := by decide +kernel
theorem dX2_surveyTree_14 : decode cX2_surveyTree 14 = .ok (.istore_n 2, 1) := by decide +kernel
theorem dX2_surveyTree_15 : decode cX2_surveyTree 15 = .ok (.iload_n 2, 1) := by decide +kernel
theorem dX2_surveyTree_16 : decode cX2_surveyTree 16 = .ok (.istore_n 3, 1) := by decide +kernel
theorem dX2_surveyTree_17 : decode cX2_surveyTree 17 = .ok (.iload_n 3, 1) := by decide +kernel
theorem dX2_surveyTree_18 : decode cX2_surveyTree 18 = .ok (.ifCond .lt 94, 3) := by decide +kernel
theorem dX2_surveyTree_21 : decode cX2_surveyTree 21 = .ok (.iconst 0, 1) := by decide +kernel
