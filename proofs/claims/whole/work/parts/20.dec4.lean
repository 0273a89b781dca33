theorem dX3_write_12 : decode cX3_write 12 = .ok (.invokevirtual 183, 3) := by decide +kernel
theorem dX3_write_15 : decode cX3_write 15 = .ok (.istore_n 2, 1) := by decide +kernel
theorem dX3_write_16 : decode cX3_write 16 = .ok (.iload_n 2, 1) := by decide +kernel
theorem dX3_write_17 : decode cX3_write 17 = .ok (.ifCond .eq 15, 3) := by decide +kernel
theorem dX3_write_20 : decode cX3_write 20 = .ok (.aload_n 0, 1) := by decide +kernel
theorem dX3_write_21 : decode cX3_write 21 = .ok (.dup, 1) := by decide +kernel
theorem dX3_write_22 : decode cX3_write 22 = .ok (.getfield 186, 3) := by decide +kernel
theorem dX3_write_25 : decode cX3_write 25 = .ok (.iconst 1, 1) := by decide +kernel
theorem dX3_write_26 : decode cX3_write 26 = .ok (.iadd, 1) := by decide +kernel
theorem dX3_write_27 : decode cX3_write 27 = .ok (.putfield 186, 3) := by decide +kernel
theorem dX3_write_30 : decode cX3_write 30 = .ok (.iload_n 2, 1) := by decide +kernel
theorem dX3_write_31 : decode cX3_write 31 = .ok (.ireturn, 1) := by decide +kernel
theorem dX3_write_32 : decode cX3_write 32 = .ok (.iconst 0, 1) := by decide +kernel
theorem dX3_write_33 : decode cX3_write 33 = .ok (.istore_n 3, 1) := by decide +kernel
theorem dX3_write_34 : decode cX3_write 34 = .ok (.iload_n 3, 1) := by decide +kernel
theorem dX3_write_35 : decode cX3_write 35 = .ok (.bipush 64, 2) := by decide +kernel
theorem dX3_write_37 : decode cX3_write 37 = .ok (.if_icmp .ge 29, 3) := by decide +kernel
theorem dX3_write_40 : decode cX3_write 40 = .ok (.aload_n 0, 1) := by decide +kernel
theorem dX3_write_41 : decode cX3_write 41 = .ok (.getfield 88, 3) := by decide +kernel
theorem dX3_write_44 : decode cX3_write 44 = .ok (.bipush 8, 2) := by decide +kernel
theorem dX3_write_46 : decode cX3_write 46 = .ok (.bipush 64, 2) := by decide +kernel
theorem dX3_write_48 : decode cX3_write 48 = .ok (.iload_n 1, 1) := by decide +kernel
theorem dX3_write_49 : decode cX3_write 49 = .ok (.imul, 1) := by decide +kernel
theorem dX3_write_50 : decode cX3_write 50 = .ok (.iadd, 1) := by decide +kernel
theorem dX3_write_51 : decode cX3_write 51 = .ok (.iload_n 3, 1) := by decide +kernel
theorem dX3_write_52 : decode cX3_write 52 = .ok (.iadd, 1) := by decide +kernel
theorem dX3_write_53 : decode cX3_write 53 = .ok (.aload_n 0, 1) := by decide +kernel
theorem dX3_write_54 : decode cX3_write 54 = .ok (.getfield 94, 3) := by decide +kernel
theorem dX3_write_57 : decode cX3_write 57 = .ok (.iload_n 3, 1) := by decide +kernel
theorem dX3_write_58 : decode cX3_write 58 = .ok (.iaload, 1) := by decide +kernel
theorem dX3_write_59 : decode cX3_write 59 = .ok (.iastore, 1) := by decide +kernel
theorem dX3_write_60 : decode cX3_write 60 = .ok (.iinc 3 1, 3) := by decide +kernel
theorem dX3_write_63 : decode cX3_write 63 = .ok (.goto (-29), 3) := by decide +kernel
theorem dX3_write_66 : decode cX3_write 66 = .ok (.aload_n 0, 1) := by decide +kernel
theorem dX3_write_67 : decode cX3_write 67 = .ok (.invokevirtual 125, 3) := by decide +kernel
theorem dX3_write_70 : decode cX3_write 70 = .ok (.istore_n 3, 1) := by decide +kernel
theorem dX3_write_71 : decode cX3_write 71 = .ok (.iconst 0, 1) := by decide +kernel
theorem dX3_write_72 : decode cX3_write 72 = .ok (.istore 4, 2) := by decide +kernel
theorem dX3_write_74 : decode cX3_write 74 = .ok (.iload 4, 2) := by decide +kernel
theorem dX3_write_76 : decode cX3_write 76 = .ok (.iload_n 3, 1) := by decide +kernel
theorem dX3_write_77 : decode cX3_write 77 = .ok (.if_icmp .ge 22, 3) := by decide +kernel
theorem dX3_write_80 : decode cX3_write 80 = .ok (.aload_n 0, 1) := by decide +kernel
theorem dX3_write_81 : decode cX3_write 81 = .ok (.iload 4, 2) := by decide +kernel
theorem dX3_write_83 : decode cX3_write 83 = .ok (.aload_n 0, 1) := by decide +kernel
theorem dX3_write_84 : decode cX3_write 84 = .ok (.iload_n 1, 1) := by decide +kernel
theorem dX3_write_85 : decode cX3_write 85 = .ok (.iload 4, 2) := by decide +kernel
theorem dX3_write_87 : decode cX3_write 87 = .ok (.invokevirtual 172, 3) := by decide +kernel
theorem dX3_write_90 : decode cX3_write 90 = .ok (.invokevirtual 192, 3) := by decide +kernel
theorem dX3_write_93 : decode cX3_write 93 = .ok (.iinc 4 1, 3) := by decide +kernel
theorem dX3_write_96 : decode cX3_write 96 = .ok (.goto (-22), 3) := by decide +kernel
theorem dX3_write_99 : decode cX3_write 99 = .ok (.aload_n 0, 1) := by decide +kernel
theorem dX3_write_100 : decode cX3_write 100 = .ok (.invokevirtual 195, 3) := by decide +kernel
theorem dX3_write_103 : decode cX3_write 103 = .ok (.aload_n 0, 1) := by decide +kernel
theorem dX3_write_104 : decode cX3_write 104 = .ok (.dup, 1) := by decide +kernel
theorem dX3_write_105 : decode cX3_write 105 = .ok (.getfield 198, 3) := by decide +kernel
theorem dX3_write_108 : decode cX3_write 108 = .ok (.iconst 1, 1) := by decide +kernel
theorem dX3_write_109 : decode cX3_write 109 = .ok (.iadd, 1) := by decide +kernel
theorem dX3_write_110 : decode cX3_write 110 = .ok (.putfield 198, 3) := by decide +kernel
theorem dX3_write_113 : decode cX3_write 113 = .ok (.iconst 0, 1) := by decide +kernel
theorem dX3_write_114 : decode cX3_write 114 = .ok (.ireturn, 1) := by decide +kernel
set_option maxRecDepth 20000 in
theorem ggX3_seal_X3_headOf : GoodIn wsX3_seal wsX3_headOf := goodIn_r _ [6, 7, 64, 65, 66, 67, 68, 69, 70, 71, 72, 73, 74, 75, 76, 77, 78, 79, 80, 81, 82, 83] (by decide +kernel) (by decide +kernel)
set_option maxRecDepth 20000 in
theorem gX3_seal_X3_headOf : GoodIn wsX3_seal (wsV RX3 169 RX3 yX3_headOf wsX3_headOf) := goodIn_app (goodIn_of _ (by decide +kernel)) ggX3_seal_X3_headOf
set_option maxRecDepth 20000 in
theorem ggX3_seal_X3_levelsOf : GoodIn wsX3_seal wsX3_levelsOf := goodIn_r _ [11, 12, 13, 14, 5, 15, 7, 64, 65, 66, 67, 68, 69, 70, 71, 72, 73, 74, 75, 76, 77, 78, 79, 80, 81, 82, 83] (by decide +kernel) (by decide +kernel)
set_option maxRecDepth 20000 in
theorem gX3_seal_X3_levelsOf : GoodIn wsX3_seal (wsV RX3 125 RX3 yX3_levelsOf wsX3_levelsOf) := goodIn_app (goodIn_of _ (by decide +kernel)) ggX3_seal_X3_levelsOf
set_option maxRecDepth 20000 in
theorem ggX3_seal_X3_nodesOf : GoodIn wsX3_seal wsX3_nodesOf := goodIn_r _ [15, 7, 64, 65, 66, 67, 68, 69, 70, 71, 72, 73, 74, 75, 76, 77, 78, 79, 80, 81, 82, 83] (by decide +kernel) (by decide +kernel)
set_option maxRecDepth 20000 in
theorem gX3_seal_X3_nodesOf : GoodIn wsX3_seal (wsV RX3 155 RX3 yX3_nodesOf wsX3_nodesOf) := goodIn_app (goodIn_of _ (by decide +kernel)) ggX3_seal_X3_nodesOf
set_option maxRecDepth 20000 in
theorem ggX3_seal_X3_putNode : GoodIn wsX3_seal wsX3_putNode := goodIn_r _ [19, 1, 20, 21, 22, 23, 5, 24, 25, 26, 27, 28, 29, 30, 12, 13, 14, 15, 7, 31, 32, 33, 34, 35, 36, 37, 38, 39, 40, 41, 42, 43, 44, 45, 46, 47, 48, 49, 50, 51, 52, 53, 54, 64, 65, 66, 67, 68, 69, 70, 71, 72, 73, 74, 75, 76, 77, 78, 79, 80, 81, 82, 83] (by decide +kernel) (by decide +kernel)
set_option maxRecDepth 20000 in
theorem gX3_seal_X3_putNode : GoodIn wsX3_seal (wsV RX3 192 RX3 yX3_putNode wsX3_putNode) := goodIn_app (goodIn_of _ (by decide +kernel)) ggX3_seal_X3_putNode
set_option maxRecDepth 20000 in
theorem ggX3_seal_X3_putRoot : GoodIn wsX3_seal wsX3_putRoot := goodIn_r _ [58, 59, 20, 60, 61, 62, 5, 63, 25, 1, 26, 27, 28, 29, 30, 8, 9, 10, 11, 12, 13, 14, 15, 7, 31, 32, 33, 34, 35, 36, 37, 38, 39, 40, 41, 42, 43, 44, 45, 46, 47, 48, 49, 50, 51, 52, 53, 54, 64, 65, 66, 67, 68, 69, 70, 71, 72, 73, 74, 75, 76, 77, 78, 79, 80, 81, 82, 83] (by decide +kernel) (by decide +kernel)
set_option maxRecDepth 20000 in
theorem gX3_seal_X3_putRoot : GoodIn wsX3_seal (wsV RX3 195 RX3 yX3_putRoot wsX3_putRoot) := goodIn_app (goodIn_of _ (by decide +kernel)) ggX3_seal_X3_putRoot
theorem dX3_seal_0 : decode cX3_seal 0 = .ok (.iconst 0, 1) := by decide +kernel
theorem dX3_seal_1 : decode cX3_seal 1 = .ok (.istore_n 1, 1) := by decide +kernel
theorem dX3_seal_2 : decode cX3_seal 2 = .ok (.iload_n 1, 1) := by decide +kernel
theorem dX3_seal_3 : decode cX3_seal 3 = .ok (.bipush 8, 2) := by decide +kernel
theorem dX3_seal_5 : decode cX3_seal 5 = .ok (.if_icmp .ge 20, 3) := by decide +kernel
theorem dX3_seal_8 : decode cX3_seal 8 = .ok (.aload_n 0, 1) := by decide +kernel
theorem dX3_seal_9 : decode cX3_seal 9 = .ok (.getfield 88, 3) := by decide +kernel
theorem dX3_seal_12 : decode cX3_seal 12 = .ok (.iload_n 1, 1) := by decide +kernel
theorem dX3_seal_13 : decode cX3_seal 13 = .ok (.aload_n 0, 1) := by decide +kernel
theorem dX3_seal_14 : decode cX3_seal 14 = .ok (.iload_n 1, 1) := by decide +kernel
theorem dX3_seal_15 : decode cX3_seal 15 = .ok (.invokevirtual 169, 3) := by decide +kernel
theorem dX3_seal_18 : decode cX3_seal 18 = .ok (.iastore, 1) := by decide +kernel
theorem dX3_seal_19 : decode cX3_seal 19 = .ok (.iinc 1 1, 3) := by decide +kernel
theorem dX3_seal_22 : decode cX3_seal 22 = .ok (.goto (-20), 3) := by decide +kernel
theorem dX3_seal_25 : decode cX3_seal 25 = .ok (.aload_n 0, 1) := by decide +kernel
theorem dX3_seal_26 : decode cX3_seal 26 = .ok (.invokevirtual 125, 3) := by decide +kernel
theorem dX3_seal_29 : decode cX3_seal 29 = .ok (.istore_n 1, 1) := by decide +kernel
theorem dX3_seal_30 : decode cX3_seal 30 = .ok (.iconst 0, 1) := by decide +kernel
theorem dX3_seal_31 : decode cX3_seal 31 = .ok (.istore_n 2, 1) := by decide +kernel
theorem dX3_seal_32 : decode cX3_seal 32 = .ok (.iconst 0, 1) := by decide +kernel
theorem dX3_seal_33 : decode cX3_seal 33 = .ok (.istore_n 3, 1) := by decide +kernel
theorem dX3_seal_34 : decode cX3_seal 34 = .ok (.iload_n 3, 1) := by decide +kernel
theorem dX3_seal_35 : decode cX3_seal 35 = .ok (.iload_n 1, 1) := by decide +kernel
theorem dX3_seal_36 : decode cX3_seal 36 = .ok (.if_icmp .ge 42, 3) := by decide +kernel
theorem dX3_seal_39 : decode cX3_seal 39 = .ok (.aload_n 0, 1) := by decide +kernel
theorem dX3_seal_40 : decode cX3_seal 40 = .ok (.iload_n 3, 1) := by decide +kernel
theorem dX3_seal_41 : decode cX3_seal 41 = .ok (.invokevirtual 155, 3) := by decide +kernel
theorem dX3_seal_44 : decode cX3_seal 44 = .ok (.istore 4, 2) := by decide +kernel
theorem dX3_seal_46 : decode cX3_seal 46 = .ok (.iconst 0, 1) := by decide +kernel
theorem dX3_seal_47 : decode cX3_seal 47 = .ok (.istore 5, 2) := by decide +kernel
theorem dX3_seal_49 : decode cX3_seal 49 = .ok (.iload 5, 2) := by decide +kernel
theorem dX3_seal_51 : decode cX3_seal 51 = .ok (.iload 4, 2) := by decide +kernel
theorem dX3_seal_53 : decode cX3_seal 53 = .ok (.if_icmp .ge 19, 3) := by decide +kernel
theorem dX3_seal_56 : decode cX3_seal 56 = .ok (.aload_n 0, 1) := by decide +kernel
theorem dX3_seal_57 : decode cX3_seal 57 = .ok (.iload_n 3, 1) := by decide +kernel
theorem dX3_seal_58 : decode cX3_seal 58 = .ok (.iload 5, 2) := by decide +kernel
theorem dX3_seal_60 : decode cX3_seal 60 = .ok (.invokevirtual 192, 3) := by decide +kernel
theorem dX3_seal_63 : decode cX3_seal 63 = .ok (.iinc 2 1, 3) := by decide +kernel
theorem dX3_seal_66 : decode cX3_seal 66 = .ok (.iinc 5 1, 3) := by decide +kernel
theorem dX3_seal_69 : decode cX3_seal 69 = .ok (.goto (-20), 3) := by decide +kernel
theorem dX3_seal_72 : decode cX3_seal 72 = .ok (.iinc 3 1, 3) := by decide +kernel
theorem dX3_seal_75 : decode cX3_seal 75 = .ok (.goto (-41), 3) := by decide +kernel
theorem dX3_seal_78 : decode cX3_seal 78 = .ok (.aload_n 0, 1) := by decide +kernel
theorem dX3_seal_79 : decode cX3_seal 79 = .ok (.invokevirtual 195, 3) := by decide +kernel
theorem dX3_seal_82 : decode cX3_seal 82 = .ok (.iload_n 2, 1) := by decide +kernel
theorem dX3_seal_83 : decode cX3_seal 83 = .ok (.ireturn, 1) := by decide +kernel
theorem dX3_size_0 : decode cX3_size 0 = .ok (.aload_n 0, 1) := by decide +kernel
theorem dX3_size_1 : decode cX3_size 1 = .ok (.getfield 133, 3) := by decide +kernel
theorem dX3_size_4 : decode cX3_size 4 = .ok (.ireturn, 1) := by decide +kernel
theorem dX3_isByte_0 : decode cX3_isByte 0 = .ok (.iload_n 1, 1) := by decide +kernel
theorem dX3_isByte_1 : decode cX3_isByte 1 = .ok (.ifCond .lt 15, 3) := by decide +kernel
theorem dX3_isByte_4 : decode cX3_isByte 4 = .ok (.iload_n 1, 1) := by decide +kernel
theorem dX3_isByte_5 : decode cX3_isByte 5 = .ok (.aload_n 0, 1) := by decide +kernel
theorem dX3_isByte_6 : decode cX3_isByte 6 = .ok (.getfield 133, 3) := by decide +kernel
theorem dX3_isByte_9 : decode cX3_isByte 9 = .ok (.if_icmp .ge 7, 3) := by decide +kernel
theorem dX3_isByte_12 : decode cX3_isByte 12 = .ok (.iconst 1, 1) := by decide +kernel
theorem dX3_isByte_13 : decode cX3_isByte 13 = .ok (.goto 4, 3) := by decide +kernel
theorem dX3_isByte_16 : decode cX3_isByte 16 = .ok (.iconst 0, 1) := by decide +kernel
theorem dX3_isByte_17 : decode cX3_isByte 17 = .ok (.ireturn, 1) := by decide +kernel
set_option maxRecDepth 20000 in
theorem ggX3_disk_X3_isByte : GoodIn wsX3_disk wsX3_isByte := goodIn_r _ [6, 7, 8, 9, 10, 11, 12, 13, 14, 15, 16, 17, 18, 19, 20, 21, 22, 23, 24, 25, 26, 27] (by decide +kernel) (by decide +kernel)
set_option maxRecDepth 20000 in
theorem gX3_disk_X3_isByte : GoodIn wsX3_disk (wsV RX3 201 RX3 yX3_isByte wsX3_isByte) := goodIn_app (goodIn_of _ (by decide +kernel)) ggX3_disk_X3_isByte
theorem dX3_disk_0 : decode cX3_disk 0 = .ok (.aload_n 0, 1) := by decide +kernel
theorem dX3_disk_1 : decode cX3_disk 1 = .ok (.iload_n 1, 1) := by decide +kernel
theorem dX3_disk_2 : decode cX3_disk 2 = .ok (.invokevirtual 201, 3) := by decide +kernel
theorem dX3_disk_5 : decode cX3_disk 5 = .ok (.ifCond .eq 12, 3) := by decide +kernel
theorem dX3_disk_8 : decode cX3_disk 8 = .ok (.aload_n 0, 1) := by decide +kernel
theorem dX3_disk_9 : decode cX3_disk 9 = .ok (.getfield 88, 3) := by decide +kernel
theorem dX3_disk_12 : decode cX3_disk 12 = .ok (.iload_n 1, 1) := by decide +kernel
theorem dX3_disk_13 : decode cX3_disk 13 = .ok (.iaload, 1) := by decide +kernel
theorem dX3_disk_14 : decode cX3_disk 14 = .ok (.goto 4, 3) := by decide +kernel
theorem dX3_disk_17 : decode cX3_disk 17 = .ok (.iconst (-1), 1) := by decide +kernel
theorem dX3_disk_18 : decode cX3_disk 18 = .ok (.ireturn, 1) := by decide +kernel
set_option maxRecDepth 20000 in
theorem ggX3_alter_X3_isByte : GoodIn wsX3_alter wsX3_isByte := goodIn_r _ [6, 7, 8, 9, 10, 11, 12, 13, 14, 15, 16, 17, 18, 19, 20, 21, 22, 23, 24, 25, 26, 27] (by decide +kernel) (by decide +kernel)
set_option maxRecDepth 20000 in
theorem gX3_alter_X3_isByte : GoodIn wsX3_alter (wsV RX3 201 RX3 yX3_isByte wsX3_isByte) := goodIn_app (goodIn_of _ (by decide +kernel)) ggX3_alter_X3_isByte
theorem dX3_alter_0 : decode cX3_alter 0 = .ok (.aload_n 0, 1) := by decide +kernel
theorem dX3_alter_1 : decode cX3_alter 1 = .ok (.iload_n 1, 1) := by decide +kernel
theorem dX3_alter_2 : decode cX3_alter 2 = .ok (.invokevirtual 201, 3) := by decide +kernel
theorem dX3_alter_5 : decode cX3_alter 5 = .ok (.ifCond .ne 5, 3) := by decide +kernel
theorem dX3_alter_8 : decode cX3_alter 8 = .ok (.iconst (-1), 1) := by decide +kernel
theorem dX3_alter_9 : decode cX3_alter 9 = .ok (.ireturn, 1) := by decide +kernel
theorem dX3_alter_10 : decode cX3_alter 10 = .ok (.aload_n 0, 1) := by decide +kernel
theorem dX3_alter_11 : decode cX3_alter 11 = .ok (.getfield 88, 3) := by decide +kernel
theorem dX3_alter_14 : decode cX3_alter 14 = .ok (.iload_n 1, 1) := by decide +kernel
theorem dX3_alter_15 : decode cX3_alter 15 = .ok (.iaload, 1) := by decide +kernel
theorem dX3_alter_16 : decode cX3_alter 16 = .ok (.istore_n 3, 1) := by decide +kernel
theorem dX3_alter_17 : decode cX3_alter 17 = .ok (.aload_n 0, 1) := by decide +kernel
theorem dX3_alter_18 : decode cX3_alter 18 = .ok (.getfield 88, 3) := by decide +kernel
theorem dX3_alter_21 : decode cX3_alter 21 = .ok (.iload_n 1, 1) := by decide +kernel
theorem dX3_alter_22 : decode cX3_alter 22 = .ok (.iload_n 3, 1) := by decide +kernel
theorem dX3_alter_23 : decode cX3_alter 23 = .ok (.iload_n 2, 1) := by decide +kernel
theorem dX3_alter_24 : decode cX3_alter 24 = .ok (.sipush 255, 3) := by decide +kernel
theorem dX3_alter_27 : decode cX3_alter 27 = .ok (.iand, 1) := by decide +kernel
theorem dX3_alter_28 : decode cX3_alter 28 = .ok (.ixor, 1) := by decide +kernel
theorem dX3_alter_29 : decode cX3_alter 29 = .ok (.iastore, 1) := by decide +kernel
theorem dX3_alter_30 : decode cX3_alter 30 = .ok (.iload_n 3, 1) := by decide +kernel
theorem dX3_alter_31 : decode cX3_alter 31 = .ok (.ireturn, 1) := by decide +kernel
theorem dX3_carry_0 : decode cX3_carry 0 = .ok (.iload_n 3, 1) := by decide +kernel
theorem dX3_carry_1 : decode cX3_carry 1 = .ok (.ifCond .lt 39, 3) := by decide +kernel
theorem dX3_carry_4 : decode cX3_carry 4 = .ok (.iload_n 1, 1) := by decide +kernel
theorem dX3_carry_5 : decode cX3_carry 5 = .ok (.ifCond .lt 35, 3) := by decide +kernel
theorem dX3_carry_8 : decode cX3_carry 8 = .ok (.iload_n 2, 1) := by decide +kernel
theorem dX3_carry_9 : decode cX3_carry 9 = .ok (.ifCond .lt 31, 3) := by decide +kernel
theorem dX3_carry_12 : decode cX3_carry 12 = .ok (.iload_n 3, 1) := by decide +kernel
theorem dX3_carry_13 : decode cX3_carry 13 = .ok (.aload_n 0, 1) := by decide +kernel
theorem dX3_carry_14 : decode cX3_carry 14 = .ok (.getfield 133, 3) := by decide +kernel
theorem dX3_carry_17 : decode cX3_carry 17 = .ok (.if_icmp .gt 23, 3) := by decide +kernel
theorem dX3_carry_20 : decode cX3_carry 20 = .ok (.iload_n 1, 1) := by decide +kernel
theorem dX3_carry_21 : decode cX3_carry 21 = .ok (.aload_n 0, 1) := by decide +kernel
theorem dX3_carry_22 : decode cX3_carry 22 = .ok (.getfield 133, 3) := by decide +kernel
theorem dX3_carry_25 : decode cX3_carry 25 = .ok (.iload_n 3, 1) := by decide +kernel
theorem dX3_carry_26 : decode cX3_carry 26 = .ok (.isub, 1) := by decide +kernel
theorem dX3_carry_27 : decode cX3_carry 27 = .ok (.if_icmp .gt 13, 3) := by decide +kernel
theorem dX3_carry_30 : decode cX3_carry 30 = .ok (.iload_n 2, 1) := by decide +kernel
theorem dX3_carry_31 : decode cX3_carry 31 = .ok (.aload_n 0, 1) := by decide +kernel
theorem dX3_carry_32 : decode cX3_carry 32 = .ok (.getfield 133, 3) := by decide +kernel
theorem dX3_carry_35 : decode cX3_carry 35 = .ok (.iload_n 3, 1) := by decide +kernel
theorem dX3_carry_36 : decode cX3_carry 36 = .ok (.isub, 1) := by decide +kernel
theorem dX3_carry_37 : decode cX3_carry 37 = .ok (.if_icmp .le 5, 3) := by decide +kernel
theorem dX3_carry_40 : decode cX3_carry 40 = .ok (.iconst (-1), 1) := by decide +kernel
theorem dX3_carry_41 : decode cX3_carry 41 = .ok (.ireturn, 1) := by decide +kernel
theorem dX3_carry_42 : decode cX3_carry 42 = .ok (.iconst 0, 1) := by decide +kernel
theorem dX3_carry_43 : decode cX3_carry 43 = .ok (.istore 4, 2) := by decide +kernel
theorem dX3_carry_45 : decode cX3_carry 45 = .ok (.iload 4, 2) := by decide +kernel
theorem dX3_carry_47 : decode cX3_carry 47 = .ok (.iload_n 3, 1) := by decide +kernel
theorem dX3_carry_48 : decode cX3_carry 48 = .ok (.if_icmp .ge 25, 3) := by decide +kernel
theorem dX3_carry_51 : decode cX3_carry 51 = .ok (.aload_n 0, 1) := by decide +kernel
theorem dX3_carry_52 : decode cX3_carry 52 = .ok (.getfield 118, 3) := by decide +kernel
theorem dX3_carry_55 : decode cX3_carry 55 = .ok (.iload 4, 2) := by decide +kernel
theorem dX3_carry_57 : decode cX3_carry 57 = .ok (.aload_n 0, 1) := by decide +kernel
theorem dX3_carry_58 : decode cX3_carry 58 = .ok (.getfield 88, 3) := by decide +kernel
theorem dX3_carry_61 : decode cX3_carry 61 = .ok (.iload_n 1, 1) := by decide +kernel
theorem dX3_carry_62 : decode cX3_carry 62 = .ok (.iload 4, 2) := by decide +kernel
theorem dX3_carry_64 : decode cX3_carry 64 = .ok (.iadd, 1) := by decide +kernel
theorem dX3_carry_65 : decode cX3_carry 65 = .ok (.iaload, 1) := by decide +kernel
theorem dX3_carry_66 : decode cX3_carry 66 = .ok (.iastore, 1) := by decide +kernel
theorem dX3_carry_67 : decode cX3_carry 67 = .ok (.iinc 4 1, 3) := by decide +kernel
theorem dX3_carry_70 : decode cX3_carry 70 = .ok (.goto (-25), 3) := by decide +kernel
theorem dX3_carry_73 : decode cX3_carry 73 = .ok (.iconst 0, 1) := by decide +kernel
theorem dX3_carry_74 : decode cX3_carry 74 = .ok (.istore 4, 2) := by decide +kernel
theorem dX3_carry_76 : decode cX3_carry 76 = .ok (.iload 4, 2) := by decide +kernel
theorem dX3_carry_78 : decode cX3_carry 78 = .ok (.iload_n 3, 1) := by decide +kernel
theorem dX3_carry_79 : decode cX3_carry 79 = .ok (.if_icmp .ge 25, 3) := by decide +kernel
theorem dX3_carry_82 : decode cX3_carry 82 = .ok (.aload_n 0, 1) := by decide +kernel
theorem dX3_carry_83 : decode cX3_carry 83 = .ok (.getfield 88, 3) := by decide +kernel
theorem dX3_carry_86 : decode cX3_carry 86 = .ok (.iload_n 2, 1) := by decide +kernel
theorem dX3_carry_87 : decode cX3_carry 87 = .ok (.iload 4, 2) := by decide +kernel
theorem dX3_carry_89 : decode cX3_carry 89 = .ok (.iadd, 1) := by decide +kernel
theorem dX3_carry_90 : decode cX3_carry 90 = .ok (.aload_n 0, 1) := by decide +kernel
theorem dX3_carry_91 : decode cX3_carry 91 = .ok (.getfield 118, 3) := by decide +kernel
theorem dX3_carry_94 : decode cX3_carry 94 = .ok (.iload 4, 2) := by decide +kernel
theorem dX3_carry_96 : decode cX3_carry 96 = .ok (.iaload, 1) := by decide +kernel
theorem dX3_carry_97 : decode cX3_carry 97 = .ok (.iastore, 1) := by decide +kernel
theorem dX3_carry_98 : decode cX3_carry 98 = .ok (.iinc 4 1, 3) := by decide +kernel
theorem dX3_carry_101 : decode cX3_carry 101 = .ok (.goto (-25), 3) := by decide +kernel
theorem dX3_carry_104 : decode cX3_carry 104 = .ok (.iload_n 3, 1) := by decide +kernel
theorem dX3_carry_105 : decode cX3_carry 105 = .ok (.ireturn, 1) := by decide +kernel
theorem dX3_root_0 : decode cX3_root 0 = .ok (.iload_n 1, 1) := by decide +kernel
theorem dX3_root_1 : decode cX3_root 1 = .ok (.ifCond .lt 9, 3) := by decide +kernel
theorem dX3_root_4 : decode cX3_root 4 = .ok (.iload_n 1, 1) := by decide +kernel
theorem dX3_root_5 : decode cX3_root 5 = .ok (.bipush 31, 2) := by decide +kernel
theorem dX3_root_7 : decode cX3_root 7 = .ok (.if_icmp .le 7, 3) := by decide +kernel
theorem dX3_root_10 : decode cX3_root 10 = .ok (.iconst (-1), 1) := by decide +kernel
theorem dX3_root_11 : decode cX3_root 11 = .ok (.goto 9, 3) := by decide +kernel
theorem dX3_root_14 : decode cX3_root 14 = .ok (.aload_n 0, 1) := by decide +kernel
theorem dX3_root_15 : decode cX3_root 15 = .ok (.getfield 91, 3) := by decide +kernel
theorem dX3_root_18 : decode cX3_root 18 = .ok (.iload_n 1, 1) := by decide +kernel
theorem dX3_root_19 : decode cX3_root 19 = .ok (.iaload, 1) := by decide +kernel
theorem dX3_root_20 : decode cX3_root 20 = .ok (.ireturn, 1) := by decide +kernel
set_option maxRecDepth 20000 in
theorem ggX3_fault_X3_isPage : GoodIn wsX3_fault wsX3_isPage := goodIn_r _ [5, 6, 72, 73, 74, 75, 76, 77, 78, 79, 80, 81, 82, 83, 84, 85, 86, 87, 88, 89, 90, 91] (by decide +kernel) (by decide +kernel)
set_option maxRecDepth 20000 in
theorem gX3_fault_X3_isPage : GoodIn wsX3_fault (wsV RX3 179 RX3 yX3_isPage wsX3_isPage) := goodIn_app (goodIn_of _ (by decide +kernel)) ggX3_fault_X3_isPage
set_option maxRecDepth 20000 in
theorem ggX3_fault_X3_faultOf : GoodIn wsX3_fault wsX3_faultOf := goodIn_r _ [10, 11, 12, 13, 14, 15, 16, 4, 17, 6, 18, 19, 20, 21, 22, 23, 24, 25, 26, 27, 28, 29, 30, 31, 32, 33, 34, 35, 36, 37, 38, 39, 40, 41, 42, 43, 44, 45, 46, 47, 48, 49, 50, 51, 52, 53, 54, 55, 56, 57, 58, 59, 60, 61, 62, 63, 64, 65, 66, 67, 68, 69, 70, 71, 72, 73, 74, 75, 76, 77, 78, 79, 80, 81, 82, 83, 84, 85, 86, 87, 88, 89, 90, 91] (by decide +kernel) (by decide +kernel)
set_option maxRecDepth 20000 in
theorem gX3_fault_X3_faultOf : GoodIn wsX3_fault (wsV RX3 183 RX3 yX3_faultOf wsX3_faultOf) := goodIn_app (goodIn_of _ (by decide +kernel)) ggX3_fault_X3_faultOf
theorem dX3_fault_0 : decode cX3_fault 0 = .ok (.aload_n 0, 1) := by decide +kernel
theorem dX3_fault_1 : decode cX3_fault 1 = .ok (.iload_n 1, 1) := by decide +kernel
theorem dX3_fault_2 : decode cX3_fault 2 = .ok (.invokevirtual 179, 3) := by decide +kernel
theorem dX3_fault_5 : decode cX3_fault 5 = .ok (.ifCond .eq 11, 3) := by decide +kernel
theorem dX3_fault_8 : decode cX3_fault 8 = .ok (.aload_n 0, 1) := by decide +kernel
theorem dX3_fault_9 : decode cX3_fault 9 = .ok (.iload_n 1, 1) := by decide +kernel
theorem dX3_fault_10 : decode cX3_fault 10 = .ok (.invokevirtual 183, 3) := by decide +kernel
theorem dX3_fault_13 : decode cX3_fault 13 = .ok (.goto 4, 3) := by decide +kernel
theorem dX3_fault_16 : decode cX3_fault 16 = .ok (.iconst (-1), 1) := by decide +kernel
theorem dX3_fault_17 : decode cX3_fault 17 = .ok (.ireturn, 1) := by decide +kernel
set_option maxRecDepth 20000 in
theorem ggX3_held_X3_faultOf : GoodIn wsX3_held wsX3_faultOf := goodIn_r _ [6, 7, 8, 9, 10, 11, 12, 5, 13, 1, 14, 15, 16, 17, 18, 19, 20, 21, 22, 23, 24, 25, 26, 27, 28, 29, 30, 31, 32, 33, 34, 35, 36, 37, 38, 39, 40, 41, 42, 43, 44, 45, 46, 47, 48, 49, 50, 51, 52, 53, 54, 55, 56, 57, 58, 59, 60, 61, 62, 63, 64, 65, 66, 67, 68, 69, 70, 71, 72, 73, 74, 75, 76, 77, 78, 79, 80, 81, 82, 83, 84, 85, 86, 87] (by decide +kernel) (by decide +kernel)
set_option maxRecDepth 20000 in
theorem gX3_held_X3_faultOf : GoodIn wsX3_held (wsV RX3 183 RX3 yX3_faultOf wsX3_faultOf) := goodIn_app (goodIn_of _ (by decide +kernel)) ggX3_held_X3_faultOf
theorem dX3_held_0 : decode cX3_held 0 = .ok (.iconst 0, 1) := by decide +kernel
theorem dX3_held_1 : decode cX3_held 1 = .ok (.istore_n 1, 1) := by decide +kernel
theorem dX3_held_2 : decode cX3_held 2 = .ok (.iconst 0, 1) := by decide +kernel
theorem dX3_held_3 : decode cX3_held 3 = .ok (.istore_n 2, 1) := by decide +kernel
theorem dX3_held_4 : decode cX3_held 4 = .ok (.iload_n 2, 1) := by decide +kernel
theorem dX3_held_5 : decode cX3_held 5 = .ok (.aload_n 0, 1) := by decide +kernel
theorem dX3_held_6 : decode cX3_held 6 = .ok (.getfield 121, 3) := by decide +kernel
theorem dX3_held_9 : decode cX3_held 9 = .ok (.if_icmp .ge 25, 3) := by decide +kernel
theorem dX3_held_12 : decode cX3_held 12 = .ok (.iload_n 1, 1) := by decide +kernel
theorem dX3_held_13 : decode cX3_held 13 = .ok (.aload_n 0, 1) := by decide +kernel
theorem dX3_held_14 : decode cX3_held 14 = .ok (.iload_n 2, 1) := by decide +kernel
theorem dX3_held_15 : decode cX3_held 15 = .ok (.invokevirtual 183, 3) := by decide +kernel
theorem dX3_held_18 : decode cX3_held 18 = .ok (.ifCond .ne 7, 3) := by decide +kernel
theorem dX3_held_21 : decode cX3_held 21 = .ok (.iconst 1, 1) := by decide +kernel
theorem dX3_held_22 : decode cX3_held 22 = .ok (.goto 4, 3) := by decide +kernel
theorem dX3_held_25 : decode cX3_held 25 = .ok (.iconst 0, 1) := by decide +kernel
theorem dX3_held_26 : decode cX3_held 26 = .ok (.iadd, 1) := by decide +kernel
theorem dX3_held_27 : decode cX3_held 27 = .ok (.istore_n 1, 1) := by decide +kernel
theorem dX3_held_28 : decode cX3_held 28 = .ok (.iinc 2 1, 3) := by decide +kernel
theorem dX3_held_31 : decode cX3_held 31 = .ok (.goto (-27), 3) := by decide +kernel
theorem dX3_held_34 : decode cX3_held 34 = .ok (.iload_n 1, 1) := by decide +kernel
theorem dX3_held_35 : decode cX3_held 35 = .ok (.ireturn, 1) := by decide +kernel
set_option maxRecDepth 20000 in
theorem ggX3_first_X3_faultOf : GoodIn wsX3_first wsX3_faultOf := goodIn_r _ [6, 7, 8, 9, 10, 11, 12, 5, 13, 1, 14, 15, 16, 17, 18, 19, 20, 21, 22, 23, 24, 25, 26, 27, 28, 29, 30, 31, 32, 33, 34, 35, 36, 37, 38, 39, 40, 41, 42, 43, 44, 45, 46, 47, 48, 49, 50, 51, 52, 53, 54, 55, 56, 57, 58, 59, 60, 61, 62, 63, 64, 65, 66, 67, 68, 69, 70, 71, 72, 73, 74, 75, 76, 77, 78, 79, 80, 81, 82, 83, 84, 85, 86, 87] (by decide +kernel) (by decide +kernel)
set_option maxRecDepth 20000 in
theorem gX3_first_X3_faultOf : GoodIn wsX3_first (wsV RX3 183 RX3 yX3_faultOf wsX3_faultOf) := goodIn_app (goodIn_of _ (by decide +kernel)) ggX3_first_X3_faultOf
theorem dX3_first_0 : decode cX3_first 0 = .ok (.iconst 0, 1) := by decide +kernel
theorem dX3_first_1 : decode cX3_first 1 = .ok (.istore_n 1, 1) := by decide +kernel
theorem dX3_first_2 : decode cX3_first 2 = .ok (.iload_n 1, 1) := by decide +kernel
theorem dX3_first_3 : decode cX3_first 3 = .ok (.aload_n 0, 1) := by decide +kernel
theorem dX3_first_4 : decode cX3_first 4 = .ok (.getfield 121, 3) := by decide +kernel
theorem dX3_first_7 : decode cX3_first 7 = .ok (.if_icmp .ge 19, 3) := by decide +kernel
theorem dX3_first_10 : decode cX3_first 10 = .ok (.aload_n 0, 1) := by decide +kernel
theorem dX3_first_11 : decode cX3_first 11 = .ok (.iload_n 1, 1) := by decide +kernel
theorem dX3_first_12 : decode cX3_first 12 = .ok (.invokevirtual 183, 3) := by decide +kernel
theorem dX3_first_15 : decode cX3_first 15 = .ok (.ifCond .eq 5, 3) := by decide +kernel
theorem dX3_first_18 : decode cX3_first 18 = .ok (.iload_n 1, 1) := by decide +kernel
theorem dX3_first_19 : decode cX3_first 19 = .ok (.ireturn, 1) := by decide +kernel
theorem dX3_first_20 : decode cX3_first 20 = .ok (.iinc 1 1, 3) := by decide +kernel
theorem dX3_first_23 : decode cX3_first 23 = .ok (.goto (-21), 3) := by decide +kernel
theorem dX3_first_26 : decode cX3_first 26 = .ok (.iconst (-1), 1) := by decide +kernel
theorem dX3_first_27 : decode cX3_first 27 = .ok (.ireturn, 1) := by decide +kernel
set_option maxRecDepth 20000 in
theorem ggX3_levels_X3_levelsOf : GoodIn wsX3_levels wsX3_levelsOf := goodIn_r _ [5, 6, 7, 8, 4, 9, 10, 11, 12, 13, 14, 15, 16, 17, 18, 19, 20, 21, 22, 23, 24, 25, 26, 27, 28, 29, 30] (by decide +kernel) (by decide +kernel)
set_option maxRecDepth 20000 in
theorem gX3_levels_X3_levelsOf : GoodIn wsX3_levels (wsV RX3 125 RX3 yX3_levelsOf wsX3_levelsOf) := goodIn_app (goodIn_of _ (by decide +kernel)) ggX3_levels_X3_levelsOf
theorem dX3_levels_0 : decode cX3_levels 0 = .ok (.aload_n 0, 1) := by decide +kernel
theorem dX3_levels_1 : decode cX3_levels 1 = .ok (.invokevirtual 125, 3) := by decide +kernel
theorem dX3_levels_4 : decode cX3_levels 4 = .ok (.ireturn, 1) := by decide +kernel
set_option maxRecDepth 20000 in
theorem ggX3_node_X3_levelsOf : GoodIn wsX3_node wsX3_levelsOf := goodIn_r _ [5, 6, 7, 8, 4, 9, 10, 15, 16, 17, 18, 19, 20, 21, 22, 23, 24, 25, 26, 27, 28, 29, 30, 31, 32, 33, 34] (by decide +kernel) (by decide +kernel)
set_option maxRecDepth 20000 in
theorem gX3_node_X3_levelsOf : GoodIn wsX3_node (wsV RX3 125 RX3 yX3_levelsOf wsX3_levelsOf) := goodIn_app (goodIn_of _ (by decide +kernel)) ggX3_node_X3_levelsOf
set_option maxRecDepth 20000 in
theorem ggX3_node_X3_nodesOf : GoodIn wsX3_node wsX3_nodesOf := goodIn_r _ [9, 10, 15, 16, 17, 18, 19, 20, 21, 22, 23, 24, 25, 26, 27, 28, 29, 30, 31, 32, 33, 34] (by decide +kernel) (by decide +kernel)
set_option maxRecDepth 20000 in
theorem gX3_node_X3_nodesOf : GoodIn wsX3_node (wsV RX3 155 RX3 yX3_nodesOf wsX3_nodesOf) := goodIn_app (goodIn_of _ (by decide +kernel)) ggX3_node_X3_nodesOf
set_option maxRecDepth 20000 in
theorem ggX3_node_X3_placeOf : GoodIn wsX3_node wsX3_placeOf := goodIn_r _ [14, 10, 6, 7, 8, 4, 9, 15, 16, 17, 18, 19, 20, 21, 22, 23, 24, 25, 26, 27, 28, 29, 30, 31, 32, 33, 34] (by decide +kernel) (by decide +kernel)
set_option maxRecDepth 20000 in
theorem gX3_node_X3_placeOf : GoodIn wsX3_node (wsV RX3 129 RX3 yX3_placeOf wsX3_placeOf) := goodIn_app (goodIn_of _ (by decide +kernel)) ggX3_node_X3_placeOf
theorem dX3_node_0 : decode cX3_node 0 = .ok (.iload_n 1, 1) := by decide +kernel
theorem dX3_node_1 : decode cX3_node 1 = .ok (.ifCond .lt 24, 3) := by decide +kernel
theorem dX3_node_4 : decode cX3_node 4 = .ok (.iload_n 1, 1) := by decide +kernel
theorem dX3_node_5 : decode cX3_node 5 = .ok (.aload_n 0, 1) := by decide +kernel
theorem dX3_node_6 : decode cX3_node 6 = .ok (.invokevirtual 125, 3) := by decide +kernel
theorem dX3_node_9 : decode cX3_node 9 = .ok (.if_icmp .ge 16, 3) := by decide +kernel
theorem dX3_node_12 : decode cX3_node 12 = .ok (.iload_n 2, 1) := by decide +kernel
theorem dX3_node_13 : decode cX3_node 13 = .ok (.ifCond .lt 12, 3) := by decide +kernel
theorem dX3_node_16 : decode cX3_node 16 = .ok (.iload_n 2, 1) := by decide +kernel
theorem dX3_node_17 : decode cX3_node 17 = .ok (.aload_n 0, 1) := by decide +kernel
theorem dX3_node_18 : decode cX3_node 18 = .ok (.iload_n 1, 1) := by decide +kernel
theorem dX3_node_19 : decode cX3_node 19 = .ok (.invokevirtual 155, 3) := by decide +kernel
theorem dX3_node_22 : decode cX3_node 22 = .ok (.if_icmp .lt 5, 3) := by decide +kernel
theorem dX3_node_25 : decode cX3_node 25 = .ok (.iconst (-1), 1) := by decide +kernel
theorem dX3_node_26 : decode cX3_node 26 = .ok (.ireturn, 1) := by decide +kernel
theorem dX3_node_27 : decode cX3_node 27 = .ok (.aload_n 0, 1) := by decide +kernel
theorem dX3_node_28 : decode cX3_node 28 = .ok (.iload_n 1, 1) := by decide +kernel
theorem dX3_node_29 : decode cX3_node 29 = .ok (.iload_n 2, 1) := by decide +kernel
theorem dX3_node_30 : decode cX3_node 30 = .ok (.invokevirtual 129, 3) := by decide +kernel
theorem dX3_node_33 : decode cX3_node 33 = .ok (.ireturn, 1) := by decide +kernel
set_option maxRecDepth 20000 in
theorem ggX3_besideOf_X3_nodeOn : GoodIn wsX3_besideOf wsX3_nodeOn := goodIn_r _ [5] (by decide +kernel) (by decide +kernel)
set_option maxRecDepth 20000 in
theorem gX3_besideOf_X3_nodeOn : GoodIn wsX3_besideOf (wsV RX3 172 RX3 yX3_nodeOn wsX3_nodeOn) := goodIn_app (goodIn_of _ (by decide +kernel)) ggX3_besideOf_X3_nodeOn
set_option maxRecDepth 20000 in
theorem ggX3_besideOf_X3_nodesOf : GoodIn wsX3_besideOf wsX3_nodesOf := goodIn_r _ [9, 10, 11, 12, 13, 14, 15, 16, 17, 18, 19, 20, 21, 22, 23, 24, 25, 26, 27, 28, 29, 30] (by decide +kernel) (by decide +kernel)
set_option maxRecDepth 20000 in
theorem gX3_besideOf_X3_nodesOf : GoodIn wsX3_besideOf (wsV RX3 155 RX3 yX3_nodesOf wsX3_nodesOf) := goodIn_app (goodIn_of _ (by decide +kernel)) ggX3_besideOf_X3_nodesOf
theorem dX3_besideOf_0 : decode cX3_besideOf 0 = .ok (.aload_n 0, 1) := by decide +kernel
theorem dX3_besideOf_1 : decode cX3_besideOf 1 = .ok (.iload_n 1, 1) := by decide +kernel
theorem dX3_besideOf_2 : decode cX3_besideOf 2 = .ok (.iload_n 2, 1) := by decide +kernel
theorem dX3_besideOf_3 : decode cX3_besideOf 3 = .ok (.invokevirtual 172, 3) := by decide +kernel
theorem dX3_besideOf_6 : decode cX3_besideOf 6 = .ok (.istore_n 3, 1) := by decide +kernel
theorem dX3_besideOf_7 : decode cX3_besideOf 7 = .ok (.iload_n 3, 1) := by decide +kernel
theorem dX3_besideOf_8 : decode cX3_besideOf 8 = .ok (.iconst 2, 1) := by decide +kernel
theorem dX3_besideOf_9 : decode cX3_besideOf 9 = .ok (.irem, 1) := by decide +kernel
theorem dX3_besideOf_10 : decode cX3_besideOf 10 = .ok (.ifCond .ne 9, 3) := by decide +kernel
theorem dX3_besideOf_13 : decode cX3_besideOf 13 = .ok (.iload_n 3, 1) := by decide +kernel
theorem dX3_besideOf_14 : decode cX3_besideOf 14 = .ok (.iconst 1, 1) := by decide +kernel
theorem dX3_besideOf_15 : decode cX3_besideOf 15 = .ok (.iadd, 1) := by decide +kernel
theorem dX3_besideOf_16 : decode cX3_besideOf 16 = .ok (.goto 6, 3) := by decide +kernel
theorem dX3_besideOf_19 : decode cX3_besideOf 19 = .ok (.iload_n 3, 1) := by decide +kernel
theorem dX3_besideOf_20 : decode cX3_besideOf 20 = .ok (.iconst 1, 1) := by decide +kernel
theorem dX3_besideOf_21 : decode cX3_besideOf 21 = .ok (.isub, 1) := by decide +kernel
theorem dX3_besideOf_22 : decode cX3_besideOf 22 = .ok (.istore 4, 2) := by decide +kernel
theorem dX3_besideOf_24 : decode cX3_besideOf 24 = .ok (.iload 4, 2) := by decide +kernel
theorem dX3_besideOf_26 : decode cX3_besideOf 26 = .ok (.aload_n 0, 1) := by decide +kernel
theorem dX3_besideOf_27 : decode cX3_besideOf 27 = .ok (.iload_n 2, 1) := by decide +kernel
theorem dX3_besideOf_28 : decode cX3_besideOf 28 = .ok (.invokevirtual 155, 3) := by decide +kernel
theorem dX3_besideOf_31 : decode cX3_besideOf 31 = .ok (.if_icmp .ge 8, 3) := by decide +kernel
theorem dX3_besideOf_34 : decode cX3_besideOf 34 = .ok (.iload 4, 2) := by decide +kernel
theorem dX3_besideOf_36 : decode cX3_besideOf 36 = .ok (.goto 4, 3) := by decide +kernel
theorem dX3_besideOf_39 : decode cX3_besideOf 39 = .ok (.iconst (-1), 1) := by decide +kernel
theorem dX3_besideOf_40 : decode cX3_besideOf 40 = .ok (.ireturn, 1) := by decide +kernel
set_option maxRecDepth 20000 in
theorem ggX3_proof_X3_isPage : GoodIn wsX3_proof wsX3_isPage := goodIn_r _ [5, 6, 23, 24, 25, 26, 27, 28, 29, 30, 31, 32, 33, 34, 35, 36, 37, 38, 39, 40, 41, 42] (by decide +kernel) (by decide +kernel)
set_option maxRecDepth 20000 in
theorem gX3_proof_X3_isPage : GoodIn wsX3_proof (wsV RX3 179 RX3 yX3_isPage wsX3_isPage) := goodIn_app (goodIn_of _ (by decide +kernel)) ggX3_proof_X3_isPage
set_option maxRecDepth 20000 in
theorem ggX3_proof_X3_levelsOf : GoodIn wsX3_proof wsX3_levelsOf := goodIn_r _ [10, 11, 12, 13, 4, 14, 6, 23, 24, 25, 26, 27, 28, 29, 30, 31, 32, 33, 34, 35, 36, 37, 38, 39, 40, 41, 42] (by decide +kernel) (by decide +kernel)
set_option maxRecDepth 20000 in
theorem gX3_proof_X3_levelsOf : GoodIn wsX3_proof (wsV RX3 125 RX3 yX3_levelsOf wsX3_levelsOf) := goodIn_app (goodIn_of _ (by decide +kernel)) ggX3_proof_X3_levelsOf
set_option maxRecDepth 20000 in
theorem ggX3_proof_X3_besideOf : GoodIn wsX3_proof wsX3_besideOf := goodIn_r _ [18, 19, 20, 21, 4, 22, 11, 12, 13, 14, 6, 23, 24, 25, 26, 27, 28, 29, 30, 31, 32, 33, 34, 35, 36, 37, 38, 39, 40, 41, 42] (by decide +kernel) (by decide +kernel)
set_option maxRecDepth 20000 in
theorem gX3_proof_X3_besideOf : GoodIn wsX3_proof (wsV RX3 204 RX3 yX3_besideOf wsX3_besideOf) := goodIn_app (goodIn_of _ (by decide +kernel)) ggX3_proof_X3_besideOf
theorem dX3_proof_0 : decode cX3_proof 0 = .ok (.aload_n 0, 1) := by decide +kernel
theorem dX3_proof_1 : decode cX3_proof 1 = .ok (.iload_n 1, 1) := by decide +kernel
theorem dX3_proof_2 : decode cX3_proof 2 = .ok (.invokevirtual 179, 3) := by decide +kernel
theorem dX3_proof_5 : decode cX3_proof 5 = .ok (.ifCond .ne 5, 3) := by decide +kernel
theorem dX3_proof_8 : decode cX3_proof 8 = .ok (.iconst (-1), 1) := by decide +kernel
theorem dX3_proof_9 : decode cX3_proof 9 = .ok (.ireturn, 1) := by decide +kernel
theorem dX3_proof_10 : decode cX3_proof 10 = .ok (.iconst 0, 1) := by decide +kernel
theorem dX3_proof_11 : decode cX3_proof 11 = .ok (.istore_n 2, 1) := by decide +kernel
theorem dX3_proof_12 : decode cX3_proof 12 = .ok (.aload_n 0, 1) := by decide +kernel
theorem dX3_proof_13 : decode cX3_proof 13 = .ok (.invokevirtual 125, 3) := by decide +kernel
theorem dX3_proof_16 : decode cX3_proof 16 = .ok (.iconst 1, 1) := by decide +kernel
theorem dX3_proof_17 : decode cX3_proof 17 = .ok (.isub, 1) := by decide +kernel
theorem dX3_proof_18 : decode cX3_proof 18 = .ok (.istore_n 3, 1) := by decide +kernel
theorem dX3_proof_19 : decode cX3_proof 19 = .ok (.iconst 0, 1) := by decide +kernel
theorem dX3_proof_20 : decode cX3_proof 20 = .ok (.istore 4, 2) := by decide +kernel
theorem dX3_proof_22 : decode cX3_proof 22 = .ok (.iload 4, 2) := by decide +kernel
theorem dX3_proof_24 : decode cX3_proof 24 = .ok (.iload_n 3, 1) := by decide +kernel
theorem dX3_proof_25 : decode cX3_proof 25 = .ok (.if_icmp .ge 27, 3) := by decide +kernel
theorem dX3_proof_28 : decode cX3_proof 28 = .ok (.iload_n 2, 1) := by decide +kernel
theorem dX3_proof_29 : decode cX3_proof 29 = .ok (.aload_n 0, 1) := by decide +kernel
theorem dX3_proof_30 : decode cX3_proof 30 = .ok (.iload_n 1, 1) := by decide +kernel
theorem dX3_proof_31 : decode cX3_proof 31 = .ok (.iload 4, 2) := by decide +kernel
theorem dX3_proof_33 : decode cX3_proof 33 = .ok (.invokevirtual 204, 3) := by decide +kernel
theorem dX3_proof_36 : decode cX3_proof 36 = .ok (.ifCond .lt 7, 3) := by decide +kernel
theorem dX3_proof_39 : decode cX3_proof 39 = .ok (.iconst 1, 1) := by decide +kernel
theorem dX3_proof_40 : decode cX3_proof 40 = .ok (.goto 4, 3) := by decide +kernel
theorem dX3_proof_43 : decode cX3_proof 43 = .ok (.iconst 0, 1) := by decide +kernel
theorem dX3_proof_44 : decode cX3_proof 44 = .ok (.iadd, 1) := by decide +kernel
theorem dX3_proof_45 : decode cX3_proof 45 = .ok (.istore_n 2, 1) := by decide +kernel
theorem dX3_proof_46 : decode cX3_proof 46 = .ok (.iinc 4 1, 3) := by decide +kernel
theorem dX3_proof_49 : decode cX3_proof 49 = .ok (.goto (-27), 3) := by decide +kernel
theorem dX3_proof_52 : decode cX3_proof 52 = .ok (.iload_n 2, 1) := by decide +kernel
theorem dX3_proof_53 : decode cX3_proof 53 = .ok (.ireturn, 1) := by decide +kernel
set_option maxRecDepth 20000 in
theorem ggX3_beside_X3_isPage : GoodIn wsX3_beside wsX3_isPage := goodIn_r _ [6, 7, 28, 29, 30, 31, 32, 33, 34, 35, 36, 37, 38, 39, 40, 41, 42, 43, 44, 45, 46, 47] (by decide +kernel) (by decide +kernel)
set_option maxRecDepth 20000 in
theorem gX3_beside_X3_isPage : GoodIn wsX3_beside (wsV RX3 179 RX3 yX3_isPage wsX3_isPage) := goodIn_app (goodIn_of _ (by decide +kernel)) ggX3_beside_X3_isPage
set_option maxRecDepth 20000 in
theorem ggX3_beside_X3_levelsOf : GoodIn wsX3_beside wsX3_levelsOf := goodIn_r _ [11, 12, 13, 14, 5, 15, 7, 28, 29, 30, 31, 32, 33, 34, 35, 36, 37, 38, 39, 40, 41, 42, 43, 44, 45, 46, 47] (by decide +kernel) (by decide +kernel)
set_option maxRecDepth 20000 in
theorem gX3_beside_X3_levelsOf : GoodIn wsX3_beside (wsV RX3 125 RX3 yX3_levelsOf wsX3_levelsOf) := goodIn_app (goodIn_of _ (by decide +kernel)) ggX3_beside_X3_levelsOf
set_option maxRecDepth 20000 in
theorem ggX3_beside_X3_besideOf : GoodIn wsX3_beside wsX3_besideOf := goodIn_r _ [19, 20, 21, 22, 5, 23, 12, 13, 14, 15, 7, 28, 29, 30, 31, 32, 33, 34, 35, 36, 37, 38, 39, 40, 41, 42, 43, 44, 45, 46, 47] (by decide +kernel) (by decide +kernel)
set_option maxRecDepth 20000 in
theorem gX3_beside_X3_besideOf : GoodIn wsX3_beside (wsV RX3 204 RX3 yX3_besideOf wsX3_besideOf) := goodIn_app (goodIn_of _ (by decide +kernel)) ggX3_beside_X3_besideOf
set_option maxRecDepth 20000 in
theorem ggX3_beside_X3_placeOf : GoodIn wsX3_beside wsX3_placeOf := goodIn_r _ [27, 7, 12, 13, 14, 5, 15, 28, 29, 30, 31, 32, 33, 34, 35, 36, 37, 38, 39, 40, 41, 42, 43, 44, 45, 46, 47] (by decide +kernel) (by decide +kernel)
set_option maxRecDepth 20000 in
theorem gX3_beside_X3_placeOf : GoodIn wsX3_beside (wsV RX3 129 RX3 yX3_placeOf wsX3_placeOf) := goodIn_app (goodIn_of _ (by decide +kernel)) ggX3_beside_X3_placeOf
theorem dX3_beside_0 : decode cX3_beside 0 = .ok (.aload_n 0, 1) := by decide +kernel
theorem dX3_beside_1 : decode cX3_beside 1 = .ok (.iload_n 1, 1) := by decide +kernel
theorem dX3_beside_2 : decode cX3_beside 2 = .ok (.invokevirtual 179, 3) := by decide +kernel
theorem dX3_beside_5 : decode cX3_beside 5 = .ok (.ifCond .eq 17, 3) := by decide +kernel
theorem dX3_beside_8 : decode cX3_beside 8 = .ok (.iload_n 2, 1) := by decide +kernel
theorem dX3_beside_9 : decode cX3_beside 9 = .ok (.ifCond .lt 13, 3) := by decide +kernel
theorem dX3_beside_12 : decode cX3_beside 12 = .ok (.iload_n 3, 1) := by decide +kernel
theorem dX3_beside_13 : decode cX3_beside 13 = .ok (.ifCond .lt 9, 3) := by decide +kernel
theorem dX3_beside_16 : decode cX3_beside 16 = .ok (.iload_n 3, 1) := by decide +kernel
theorem dX3_beside_17 : decode cX3_beside 17 = .ok (.bipush 31, 2) := by decide +kernel
theorem dX3_beside_19 : decode cX3_beside 19 = .ok (.if_icmp .le 5, 3) := by decide +kernel
theorem dX3_beside_22 : decode cX3_beside 22 = .ok (.iconst (-1), 1) := by decide +kernel
theorem dX3_beside_23 : decode cX3_beside 23 = .ok (.ireturn, 1) := by decide +kernel
theorem dX3_beside_24 : decode cX3_beside 24 = .ok (.iload_n 2, 1) := by decide +kernel
theorem dX3_beside_25 : decode cX3_beside 25 = .ok (.istore 4, 2) := by decide +kernel
theorem dX3_beside_27 : decode cX3_beside 27 = .ok (.aload_n 0, 1) := by decide +kernel
theorem dX3_beside_28 : decode cX3_beside 28 = .ok (.invokevirtual 125, 3) := by decide +kernel
theorem dX3_beside_31 : decode cX3_beside 31 = .ok (.iconst 1, 1) := by decide +kernel
theorem dX3_beside_32 : decode cX3_beside 32 = .ok (.isub, 1) := by decide +kernel
theorem dX3_beside_33 : decode cX3_beside 33 = .ok (.istore 5, 2) := by decide +kernel
theorem dX3_beside_35 : decode cX3_beside 35 = .ok (.iconst 0, 1) := by decide +kernel
theorem dX3_beside_36 : decode cX3_beside 36 = .ok (.istore 6, 2) := by decide +kernel
theorem dX3_beside_38 : decode cX3_beside 38 = .ok (.iload 6, 2) := by decide +kernel
theorem dX3_beside_40 : decode cX3_beside 40 = .ok (.iload 5, 2) := by decide +kernel
theorem dX3_beside_42 : decode cX3_beside 42 = .ok (.if_icmp .ge 47, 3) := by decide +kernel
theorem dX3_beside_45 : decode cX3_beside 45 = .ok (.aload_n 0, 1) := by decide +kernel
theorem dX3_beside_46 : decode cX3_beside 46 = .ok (.iload_n 1, 1) := by decide +kernel
theorem dX3_beside_47 : decode cX3_beside 47 = .ok (.iload 6, 2) := by decide +kernel
theorem dX3_beside_49 : decode cX3_beside 49 = .ok (.invokevirtual 204, 3) := by decide +kernel
theorem dX3_beside_52 : decode cX3_beside 52 = .ok (.istore 7, 2) := by decide +kernel
theorem dX3_beside_54 : decode cX3_beside 54 = .ok (.iload 7, 2) := by decide +kernel
theorem dX3_beside_56 : decode cX3_beside 56 = .ok (.ifCond .lt 27, 3) := by decide +kernel
theorem dX3_beside_59 : decode cX3_beside 59 = .ok (.iload 4, 2) := by decide +kernel
theorem dX3_beside_61 : decode cX3_beside 61 = .ok (.ifCond .ne 19, 3) := by decide +kernel
theorem dX3_beside_64 : decode cX3_beside 64 = .ok (.aload_n 0, 1) := by decide +kernel
theorem dX3_beside_65 : decode cX3_beside 65 = .ok (.getfield 88, 3) := by decide +kernel
theorem dX3_beside_68 : decode cX3_beside 68 = .ok (.aload_n 0, 1) := by decide +kernel
theorem dX3_beside_69 : decode cX3_beside 69 = .ok (.iload 6, 2) := by decide +kernel
theorem dX3_beside_71 : decode cX3_beside 71 = .ok (.iload 7, 2) := by decide +kernel
theorem dX3_beside_73 : decode cX3_beside 73 = .ok (.invokevirtual 129, 3) := by decide +kernel
theorem dX3_beside_76 : decode cX3_beside 76 = .ok (.iload_n 3, 1) := by decide +kernel
theorem dX3_beside_77 : decode cX3_beside 77 = .ok (.iadd, 1) := by decide +kernel
theorem dX3_beside_78 : decode cX3_beside 78 = .ok (.iaload, 1) := by decide +kernel
theorem dX3_beside_79 : decode cX3_beside 79 = .ok (.ireturn, 1) := by decide +kernel
theorem dX3_beside_80 : decode cX3_beside 80 = .ok (.iinc 4 (-1), 3) := by decide +kernel
theorem dX3_beside_83 : decode cX3_beside 83 = .ok (.iinc 6 1, 3) := by decide +kernel
theorem dX3_beside_86 : decode cX3_beside 86 = .ok (.goto (-48), 3) := by decide +kernel
theorem dX3_beside_89 : decode cX3_beside 89 = .ok (.iconst (-1), 1) := by decide +kernel
theorem dX3_beside_90 : decode cX3_beside 90 = .ok (.ireturn, 1) := by decide +kernel
theorem dX3_keep_0 : decode cX3_keep 0 = .ok (.iconst 0, 1) := by decide +kernel
theorem dX3_keep_1 : decode cX3_keep 1 = .ok (.istore_n 1, 1) := by decide +kernel
theorem dX3_keep_2 : decode cX3_keep 2 = .ok (.iload_n 1, 1) := by decide +kernel
theorem dX3_keep_3 : decode cX3_keep 3 = .ok (.aload_n 0, 1) := by decide +kernel
theorem dX3_keep_4 : decode cX3_keep 4 = .ok (.getfield 133, 3) := by decide +kernel
theorem dX3_keep_7 : decode cX3_keep 7 = .ok (.if_icmp .ge 21, 3) := by decide +kernel
theorem dX3_keep_10 : decode cX3_keep 10 = .ok (.aload_n 0, 1) := by decide +kernel
theorem dX3_keep_11 : decode cX3_keep 11 = .ok (.getfield 97, 3) := by decide +kernel
theorem dX3_keep_14 : decode cX3_keep 14 = .ok (.iload_n 1, 1) := by decide +kernel
theorem dX3_keep_15 : decode cX3_keep 15 = .ok (.aload_n 0, 1) := by decide +kernel
theorem dX3_keep_16 : decode cX3_keep 16 = .ok (.getfield 88, 3) := by decide +kernel
theorem dX3_keep_19 : decode cX3_keep 19 = .ok (.iload_n 1, 1) := by decide +kernel
theorem dX3_keep_20 : decode cX3_keep 20 = .ok (.iaload, 1) := by decide +kernel
theorem dX3_keep_21 : decode cX3_keep 21 = .ok (.iastore, 1) := by decide +kernel
theorem dX3_keep_22 : decode cX3_keep 22 = .ok (.iinc 1 1, 3) := by decide +kernel
theorem dX3_keep_25 : decode cX3_keep 25 = .ok (.goto (-23), 3) := by decide +kernel
theorem dX3_keep_28 : decode cX3_keep 28 = .ok (.iconst 0, 1) := by decide +kernel
theorem dX3_keep_29 : decode cX3_keep 29 = .ok (.istore_n 1, 1) := by decide +kernel
theorem dX3_keep_30 : decode cX3_keep 30 = .ok (.iload_n 1, 1) := by decide +kernel
theorem dX3_keep_31 : decode cX3_keep 31 = .ok (.bipush 32, 2) := by decide +kernel
theorem dX3_keep_33 : decode cX3_keep 33 = .ok (.if_icmp .ge 21, 3) := by decide +kernel
theorem dX3_keep_36 : decode cX3_keep 36 = .ok (.aload_n 0, 1) := by decide +kernel
theorem dX3_keep_37 : decode cX3_keep 37 = .ok (.getfield 100, 3) := by decide +kernel
theorem dX3_keep_40 : decode cX3_keep 40 = .ok (.iload_n 1, 1) := by decide +kernel
theorem dX3_keep_41 : decode cX3_keep 41 = .ok (.aload_n 0, 1) := by decide +kernel
theorem dX3_keep_42 : decode cX3_keep 42 = .ok (.getfield 91, 3) := by decide +kernel
theorem dX3_keep_45 : decode cX3_keep 45 = .ok (.iload_n 1, 1) := by decide +kernel
theorem dX3_keep_46 : decode cX3_keep 46 = .ok (.iaload, 1) := by decide +kernel
theorem dX3_keep_47 : decode cX3_keep 47 = .ok (.iastore, 1) := by decide +kernel
theorem dX3_keep_48 : decode cX3_keep 48 = .ok (.iinc 1 1, 3) := by decide +kernel
theorem dX3_keep_51 : decode cX3_keep 51 = .ok (.goto (-21), 3) := by decide +kernel
theorem dX3_keep_54 : decode cX3_keep 54 = .ok (.aload_n 0, 1) := by decide +kernel
theorem dX3_keep_55 : decode cX3_keep 55 = .ok (.iconst 1, 1) := by decide +kernel
theorem dX3_keep_56 : decode cX3_keep 56 = .ok (.putfield 207, 3) := by decide +kernel
theorem dX3_keep_59 : decode cX3_keep 59 = .ok (.aload_n 0, 1) := by decide +kernel
theorem dX3_keep_60 : decode cX3_keep 60 = .ok (.getfield 133, 3) := by decide +kernel
theorem dX3_keep_63 : decode cX3_keep 63 = .ok (.ireturn, 1) := by decide +kernel
theorem dX3_back_0 : decode cX3_back 0 = .ok (.aload_n 0, 1) := by decide +kernel
theorem dX3_back_1 : decode cX3_back 1 = .ok (.getfield 207, 3) := by decide +kernel
theorem dX3_back_4 : decode cX3_back 4 = .ok (.ifCond .ne 5, 3) := by decide +kernel
theorem dX3_back_7 : decode cX3_back 7 = .ok (.iconst (-1), 1) := by decide +kernel
theorem dX3_back_8 : decode cX3_back 8 = .ok (.ireturn, 1) := by decide +kernel
theorem dX3_back_9 : decode cX3_back 9 = .ok (.iconst 0, 1) := by decide +kernel
theorem dX3_back_10 : decode cX3_back 10 = .ok (.istore_n 1, 1) := by decide +kernel
theorem dX3_back_11 : decode cX3_back 11 = .ok (.iconst 0, 1) := by decide +kernel
theorem dX3_back_12 : decode cX3_back 12 = .ok (.istore_n 2, 1) := by decide +kernel
theorem dX3_back_13 : decode cX3_back 13 = .ok (.iload_n 2, 1) := by decide +kernel
theorem dX3_back_14 : decode cX3_back 14 = .ok (.aload_n 0, 1) := by decide +kernel
theorem dX3_back_15 : decode cX3_back 15 = .ok (.getfield 133, 3) := by decide +kernel
theorem dX3_back_18 : decode cX3_back 18 = .ok (.if_icmp .ge 44, 3) := by decide +kernel
theorem dX3_back_21 : decode cX3_back 21 = .ok (.iload_n 1, 1) := by decide +kernel
theorem dX3_back_22 : decode cX3_back 22 = .ok (.aload_n 0, 1) := by decide +kernel
theorem dX3_back_23 : decode cX3_back 23 = .ok (.getfield 88, 3) := by decide +kernel
theorem dX3_back_26 : decode cX3_back 26 = .ok (.iload_n 2, 1) := by decide +kernel
theorem dX3_back_27 : decode cX3_back 27 = .ok (.iaload, 1) := by decide +kernel
theorem dX3_back_28 : decode cX3_back 28 = .ok (.aload_n 0, 1) := by decide +kernel
theorem dX3_back_29 : decode cX3_back 29 = .ok (.getfield 97, 3) := by decide +kernel
theorem dX3_back_32 : decode cX3_back 32 = .ok (.iload_n 2, 1) := by decide +kernel
theorem dX3_back_33 : decode cX3_back 33 = .ok (.iaload, 1) := by decide +kernel
theorem dX3_back_34 : decode cX3_back 34 = .ok (.if_icmp .eq 7, 3) := by decide +kernel
theorem dX3_back_37 : decode cX3_back 37 = .ok (.iconst 1, 1) := by decide +kernel
theorem dX3_back_38 : decode cX3_back 38 = .ok (.goto 4, 3) := by decide +kernel
theorem dX3_back_41 : decode cX3_back 41 = .ok (.iconst 0, 1) := by decide +kernel
theorem dX3_back_42 : decode cX3_back 42 = .ok (.iadd, 1) := by decide +kernel
theorem dX3_back_43 : decode cX3_back 43 = .ok (.istore_n 1, 1) := by decide +kernel
theorem dX3_back_44 : decode cX3_back 44 = .ok (.aload_n 0, 1) := by decide +kernel
theorem dX3_back_45 : decode cX3_back 45 = .ok (.getfield 88, 3) := by decide +kernel
theorem dX3_back_48 : decode cX3_back 48 = .ok (.iload_n 2, 1) := by decide +kernel
theorem dX3_back_49 : decode cX3_back 49 = .ok (.aload_n 0, 1) := by decide +kernel
theorem dX3_back_50 : decode cX3_back 50 = .ok (.getfield 97, 3) := by decide +kernel
theorem dX3_back_53 : decode cX3_back 53 = .ok (.iload_n 2, 1) := by decide +kernel
theorem dX3_back_54 : decode cX3_back 54 = .ok (.iaload, 1) := by decide +kernel
theorem dX3_back_55 : decode cX3_back 55 = .ok (.iastore, 1) := by decide +kernel
theorem dX3_back_56 : decode cX3_back 56 = .ok (.iinc 2 1, 3) := by decide +kernel
theorem dX3_back_59 : decode cX3_back 59 = .ok (.goto (-46), 3) := by decide +kernel
theorem dX3_back_62 : decode cX3_back 62 = .ok (.iload_n 1, 1) := by decide +kernel
theorem dX3_back_63 : decode cX3_back 63 = .ok (.ireturn, 1) := by decide +kernel
set_option maxRecDepth 20000 in
theorem ggX3_open_X3_back : GoodIn wsX3_open wsX3_back := goodIn_r _ [7, 8, 9, 10, 11, 12, 13, 14, 15, 16, 17, 18, 19, 20, 21, 22, 23, 24, 25, 26, 27, 28, 29, 30, 31] (by decide +kernel) (by decide +kernel)
set_option maxRecDepth 20000 in
theorem gX3_open_X3_back : GoodIn wsX3_open (wsV RX3 211 RX3 yX3_back wsX3_back) := goodIn_app (goodIn_of _ (by decide +kernel)) ggX3_open_X3_back
theorem dX3_open_0 : decode cX3_open 0 = .ok (.aload_n 0, 1) := by decide +kernel
theorem dX3_open_1 : decode cX3_open 1 = .ok (.invokevirtual 211, 3) := by decide +kernel
theorem dX3_open_4 : decode cX3_open 4 = .ok (.istore_n 1, 1) := by decide +kernel
theorem dX3_open_5 : decode cX3_open 5 = .ok (.iconst 0, 1) := by decide +kernel
theorem dX3_open_6 : decode cX3_open 6 = .ok (.istore_n 2, 1) := by decide +kernel
theorem dX3_open_7 : decode cX3_open 7 = .ok (.iload_n 2, 1) := by decide +kernel
theorem dX3_open_8 : decode cX3_open 8 = .ok (.bipush 32, 2) := by decide +kernel
theorem dX3_open_10 : decode cX3_open 10 = .ok (.if_icmp .ge 25, 3) := by decide +kernel
theorem dX3_open_13 : decode cX3_open 13 = .ok (.iload_n 1, 1) := by decide +kernel
theorem dX3_open_14 : decode cX3_open 14 = .ok (.ifCond .lt 21, 3) := by decide +kernel
theorem dX3_open_17 : decode cX3_open 17 = .ok (.aload_n 0, 1) := by decide +kernel
theorem dX3_open_18 : decode cX3_open 18 = .ok (.getfield 91, 3) := by decide +kernel
theorem dX3_open_21 : decode cX3_open 21 = .ok (.iload_n 2, 1) := by decide +kernel
theorem dX3_open_22 : decode cX3_open 22 = .ok (.aload_n 0, 1) := by decide +kernel
theorem dX3_open_23 : decode cX3_open 23 = .ok (.getfield 100, 3) := by decide +kernel
theorem dX3_open_26 : decode cX3_open 26 = .ok (.iload_n 2, 1) := by decide +kernel
theorem dX3_open_27 : decode cX3_open 27 = .ok (.iaload, 1) := by decide +kernel
theorem dX3_open_28 : decode cX3_open 28 = .ok (.iastore, 1) := by decide +kernel
theorem dX3_open_29 : decode cX3_open 29 = .ok (.iinc 2 1, 3) := by decide +kernel
theorem dX3_open_32 : decode cX3_open 32 = .ok (.goto (-25), 3) := by decide +kernel
theorem dX3_open_35 : decode cX3_open 35 = .ok (.iload_n 1, 1) := by decide +kernel
theorem dX3_open_36 : decode cX3_open 36 = .ok (.ireturn, 1) := by decide +kernel
set_option maxRecDepth 20000 in
theorem ggX3_hash_X3_add : GoodIn wsX3_hash wsX3_add := goodIn_r _ [8, 9, 1, 30, 31, 32, 33, 34, 35, 36, 37, 38, 39, 40, 41, 42, 43, 44, 45, 46, 47, 48, 49] (by decide +kernel) (by decide +kernel)
set_option maxRecDepth 20000 in
theorem gX3_hash_X3_add : GoodIn wsX3_hash (wsV RX3 142 RX3 yX3_add wsX3_add) := goodIn_app (goodIn_of _ (by decide +kernel)) ggX3_hash_X3_add
set_option maxRecDepth 20000 in
theorem ggX3_hash_X3_hashRow : GoodIn wsX3_hash wsX3_hashRow := goodIn_r _ [13, 1, 14, 15, 3, 4, 5, 6, 7, 8, 9, 16, 17, 18, 19, 20, 21, 22, 23, 24, 25, 26, 27, 28, 29, 30, 31, 32, 33, 34, 35, 36, 37, 38, 39, 40, 41, 42, 43, 44, 45, 46, 47, 48, 49] (by decide +kernel) (by decide +kernel)
set_option maxRecDepth 20000 in
theorem gX3_hash_X3_hashRow : GoodIn wsX3_hash (wsV RX3 159 RX3 yX3_hashRow wsX3_hashRow) := goodIn_app (goodIn_of _ (by decide +kernel)) ggX3_hash_X3_hashRow
theorem dX3_hash_0 : decode cX3_hash 0 = .ok (.iload_n 1, 1) := by decide +kernel
theorem dX3_hash_1 : decode cX3_hash 1 = .ok (.ifCond .lt 19, 3) := by decide +kernel
theorem dX3_hash_4 : decode cX3_hash 4 = .ok (.iload_n 1, 1) := by decide +kernel
theorem dX3_hash_5 : decode cX3_hash 5 = .ok (.bipush 64, 2) := by decide +kernel
theorem dX3_hash_7 : decode cX3_hash 7 = .ok (.if_icmp .gt 13, 3) := by decide +kernel
theorem dX3_hash_10 : decode cX3_hash 10 = .ok (.iload_n 2, 1) := by decide +kernel
theorem dX3_hash_11 : decode cX3_hash 11 = .ok (.ifCond .lt 9, 3) := by decide +kernel
theorem dX3_hash_14 : decode cX3_hash 14 = .ok (.iload_n 2, 1) := by decide +kernel
theorem dX3_hash_15 : decode cX3_hash 15 = .ok (.bipush 31, 2) := by decide +kernel
theorem dX3_hash_17 : decode cX3_hash 17 = .ok (.if_icmp .le 5, 3) := by decide +kernel
theorem dX3_hash_20 : decode cX3_hash 20 = .ok (.iconst (-1), 1) := by decide +kernel
theorem dX3_hash_21 : decode cX3_hash 21 = .ok (.ireturn, 1) := by decide +kernel
theorem dX3_hash_22 : decode cX3_hash 22 = .ok (.aload_n 0, 1) := by decide +kernel
theorem dX3_hash_23 : decode cX3_hash 23 = .ok (.iconst 0, 1) := by decide +kernel
theorem dX3_hash_24 : decode cX3_hash 24 = .ok (.putfield 139, 3) := by decide +kernel
theorem dX3_hash_27 : decode cX3_hash 27 = .ok (.iconst 0, 1) := by decide +kernel
theorem dX3_hash_28 : decode cX3_hash 28 = .ok (.istore_n 3, 1) := by decide +kernel
theorem dX3_hash_29 : decode cX3_hash 29 = .ok (.iload_n 3, 1) := by decide +kernel
theorem dX3_hash_30 : decode cX3_hash 30 = .ok (.iload_n 1, 1) := by decide +kernel
theorem dX3_hash_31 : decode cX3_hash 31 = .ok (.if_icmp .ge 19, 3) := by decide +kernel
theorem dX3_hash_34 : decode cX3_hash 34 = .ok (.aload_n 0, 1) := by decide +kernel
theorem dX3_hash_35 : decode cX3_hash 35 = .ok (.aload_n 0, 1) := by decide +kernel
theorem dX3_hash_36 : decode cX3_hash 36 = .ok (.getfield 94, 3) := by decide +kernel
theorem dX3_hash_39 : decode cX3_hash 39 = .ok (.iload_n 3, 1) := by decide +kernel
theorem dX3_hash_40 : decode cX3_hash 40 = .ok (.iaload, 1) := by decide +kernel
theorem dX3_hash_41 : decode cX3_hash 41 = .ok (.invokevirtual 142, 3) := by decide +kernel
theorem dX3_hash_44 : decode cX3_hash 44 = .ok (.iinc 3 1, 3) := by decide +kernel
theorem dX3_hash_47 : decode cX3_hash 47 = .ok (.goto (-18), 3) := by decide +kernel
theorem dX3_hash_50 : decode cX3_hash 50 = .ok (.aload_n 0, 1) := by decide +kernel
theorem dX3_hash_51 : decode cX3_hash 51 = .ok (.invokevirtual 159, 3) := by decide +kernel
theorem dX3_hash_54 : decode cX3_hash 54 = .ok (.aload_n 0, 1) := by decide +kernel
theorem dX3_hash_55 : decode cX3_hash 55 = .ok (.getfield 106, 3) := by decide +kernel
theorem dX3_hash_58 : decode cX3_hash 58 = .ok (.iload_n 2, 1) := by decide +kernel
theorem dX3_hash_59 : decode cX3_hash 59 = .ok (.iaload, 1) := by decide +kernel
theorem dX3_hash_60 : decode cX3_hash 60 = .ok (.ireturn, 1) := by decide +kernel
theorem dX3_told_0 : decode cX3_told 0 = .ok (.iload_n 1, 1) := by decide +kernel
theorem dX3_told_1 : decode cX3_told 1 = .ok (.tableswitch 51 0 3 #[31, 36, 41, 46], 31) := by decide +kernel
theorem dX3_told_32 : decode cX3_told 32 = .ok (.aload_n 0, 1) := by decide +kernel
theorem dX3_told_33 : decode cX3_told 33 = .ok (.getfield 121, 3) := by decide +kernel
theorem dX3_told_36 : decode cX3_told 36 = .ok (.ireturn, 1) := by decide +kernel
theorem dX3_told_37 : decode cX3_told 37 = .ok (.aload_n 0, 1) := by decide +kernel
theorem dX3_told_38 : decode cX3_told 38 = .ok (.getfield 189, 3) := by decide +kernel
theorem dX3_told_41 : decode cX3_told 41 = .ok (.ireturn, 1) := by decide +kernel
theorem dX3_told_42 : decode cX3_told 42 = .ok (.aload_n 0, 1) := by decide +kernel
theorem dX3_told_43 : decode cX3_told 43 = .ok (.getfield 198, 3) := by decide +kernel
theorem dX3_told_46 : decode cX3_told 46 = .ok (.ireturn, 1) := by decide +kernel
theorem dX3_told_47 : decode cX3_told 47 = .ok (.aload_n 0, 1) := by decide +kernel
theorem dX3_told_48 : decode cX3_told 48 = .ok (.getfield 186, 3) := by decide +kernel
theorem dX3_told_51 : decode cX3_told 51 = .ok (.ireturn, 1) := by decide +kernel
theorem dX3_told_52 : decode cX3_told 52 = .ok (.iconst (-1), 1) := by decide +kernel
theorem dX3_told_53 : decode cX3_told 53 = .ok (.ireturn, 1) := by decide +kernel
theorem dJ9_max_7cf53_0 : decode cJ9_max_7cf53 0 = .ok (.iload_n 0, 1) := by decide +kernel
theorem dJ9_max_7cf53_1 : decode cJ9_max_7cf53 1 = .ok (.iload_n 1, 1) := by decide +kernel
theorem dJ9_max_7cf53_2 : decode cJ9_max_7cf53 2 = .ok (.if_icmp .lt 7, 3) := by decide +kernel
theorem dJ9_max_7cf53_5 : decode cJ9_max_7cf53 5 = .ok (.iload_n 0, 1) := by decide +kernel
theorem dJ9_max_7cf53_6 : decode cJ9_max_7cf53 6 = .ok (.goto 4, 3) := by decide +kernel
theorem dJ9_max_7cf53_9 : decode cJ9_max_7cf53 9 = .ok (.iload_n 1, 1) := by decide +kernel
theorem dJ9_max_7cf53_10 : decode cJ9_max_7cf53 10 = .ok (.ireturn, 1) := by decide +kernel
theorem dJ9_min_7cf53_0 : decode cJ9_min_7cf53 0 = .ok (.iload_n 0, 1) := by decide +kernel
theorem dJ9_min_7cf53_1 : decode cJ9_min_7cf53 1 = .ok (.iload_n 1, 1) := by decide +kernel
theorem dJ9_min_7cf53_2 : decode cJ9_min_7cf53 2 = .ok (.if_icmp .gt 7, 3) := by decide +kernel
theorem dJ9_min_7cf53_5 : decode cJ9_min_7cf53 5 = .ok (.iload_n 0, 1) := by decide +kernel
theorem dJ9_min_7cf53_6 : decode cJ9_min_7cf53 6 = .ok (.goto 4, 3) := by decide +kernel
theorem dJ9_min_7cf53_9 : decode cJ9_min_7cf53 9 = .ok (.iload_n 1, 1) := by decide +kernel
theorem dJ9_min_7cf53_10 : decode cJ9_min_7cf53 10 = .ok (.ireturn, 1) := by decide +kernel
theorem dL_cell_0 : decode cL_cell 0 = .ok (.iload_n 1, 1) := by decide +kernel
theorem dL_cell_1 : decode cL_cell 1 = .ok (.aload_n 0, 1) := by decide +kernel
theorem dL_cell_2 : decode cL_cell 2 = .ok (.arraylength, 1) := by decide +kernel
theorem dL_cell_3 : decode cL_cell 3 = .ok (.if_icmp .ge 9, 3) := by decide +kernel
theorem dL_cell_6 : decode cL_cell 6 = .ok (.aload_n 0, 1) := by decide +kernel
theorem dL_cell_7 : decode cL_cell 7 = .ok (.iload_n 1, 1) := by decide +kernel
theorem dL_cell_8 : decode cL_cell 8 = .ok (.iaload, 1) := by decide +kernel
theorem dL_cell_9 : decode cL_cell 9 = .ok (.goto 4, 3) := by decide +kernel
theorem dL_cell_12 : decode cL_cell 12 = .ok (.iconst 0, 1) := by decide +kernel
theorem dL_cell_13 : decode cL_cell 13 = .ok (.ireturn, 1) := by decide +kernel
