theorem dX6_reads_32 : decode cX6_reads 32 = .ok (.iconst 0, 1) := by decide +kernel
theorem dX6_reads_33 : decode cX6_reads 33 = .ok (.ireturn, 1) := by decide +kernel
theorem dX6_reads_34 : decode cX6_reads 34 = .ok (.aload_n 0, 1) := by decide +kernel
theorem dX6_reads_35 : decode cX6_reads 35 = .ok (.getfield 29, 3) := by decide +kernel
theorem dX6_reads_38 : decode cX6_reads 38 = .ok (.iconst 4, 1) := by decide +kernel
theorem dX6_reads_39 : decode cX6_reads 39 = .ok (.aload_n 0, 1) := by decide +kernel
theorem dX6_reads_40 : decode cX6_reads 40 = .ok (.getfield 146, 3) := by decide +kernel
theorem dX6_reads_43 : decode cX6_reads 43 = .ok (.imul, 1) := by decide +kernel
theorem dX6_reads_44 : decode cX6_reads 44 = .ok (.iload_n 1, 1) := by decide +kernel
theorem dX6_reads_45 : decode cX6_reads 45 = .ok (.iastore, 1) := by decide +kernel
theorem dX6_reads_46 : decode cX6_reads 46 = .ok (.aload_n 0, 1) := by decide +kernel
theorem dX6_reads_47 : decode cX6_reads 47 = .ok (.invokevirtual 149, 3) := by decide +kernel
theorem dX6_reads_50 : decode cX6_reads 50 = .ok (.iconst 0, 1) := by decide +kernel
theorem dX6_reads_51 : decode cX6_reads 51 = .ok (.istore_n 2, 1) := by decide +kernel
theorem dX6_reads_52 : decode cX6_reads 52 = .ok (.iload_n 2, 1) := by decide +kernel
theorem dX6_reads_53 : decode cX6_reads 53 = .ok (.iload_n 1, 1) := by decide +kernel
theorem dX6_reads_54 : decode cX6_reads 54 = .ok (.invokestatic 152, 3) := by decide +kernel
theorem dX6_reads_57 : decode cX6_reads 57 = .ok (.if_icmp .ge 42, 3) := by decide +kernel
theorem dX6_reads_60 : decode cX6_reads 60 = .ok (.aload_n 0, 1) := by decide +kernel
theorem dX6_reads_61 : decode cX6_reads 61 = .ok (.getfield 132, 3) := by decide +kernel
theorem dX6_reads_64 : decode cX6_reads 64 = .ok (.iconst 2, 1) := by decide +kernel
theorem dX6_reads_65 : decode cX6_reads 65 = .ok (.if_icmp .eq 5, 3) := by decide +kernel
theorem dX6_reads_68 : decode cX6_reads 68 = .ok (.iconst 0, 1) := by decide +kernel
theorem dX6_reads_69 : decode cX6_reads 69 = .ok (.ireturn, 1) := by decide +kernel
theorem dX6_reads_70 : decode cX6_reads 70 = .ok (.aload_n 0, 1) := by decide +kernel
theorem dX6_reads_71 : decode cX6_reads 71 = .ok (.getfield 29, 3) := by decide +kernel
theorem dX6_reads_74 : decode cX6_reads 74 = .ok (.iconst 4, 1) := by decide +kernel
theorem dX6_reads_75 : decode cX6_reads 75 = .ok (.aload_n 0, 1) := by decide +kernel
theorem dX6_reads_76 : decode cX6_reads 76 = .ok (.getfield 146, 3) := by decide +kernel
theorem dX6_reads_79 : decode cX6_reads 79 = .ok (.imul, 1) := by decide +kernel
theorem dX6_reads_80 : decode cX6_reads 80 = .ok (.iconst 1, 1) := by decide +kernel
theorem dX6_reads_81 : decode cX6_reads 81 = .ok (.iadd, 1) := by decide +kernel
theorem dX6_reads_82 : decode cX6_reads 82 = .ok (.iload_n 2, 1) := by decide +kernel
theorem dX6_reads_83 : decode cX6_reads 83 = .ok (.iadd, 1) := by decide +kernel
theorem dX6_reads_84 : decode cX6_reads 84 = .ok (.aload_n 0, 1) := by decide +kernel
theorem dX6_reads_85 : decode cX6_reads 85 = .ok (.getfield 143, 3) := by decide +kernel
theorem dX6_reads_88 : decode cX6_reads 88 = .ok (.iastore, 1) := by decide +kernel
theorem dX6_reads_89 : decode cX6_reads 89 = .ok (.aload_n 0, 1) := by decide +kernel
theorem dX6_reads_90 : decode cX6_reads 90 = .ok (.invokevirtual 149, 3) := by decide +kernel
theorem dX6_reads_93 : decode cX6_reads 93 = .ok (.iinc 2 1, 3) := by decide +kernel
theorem dX6_reads_96 : decode cX6_reads 96 = .ok (.goto (-44), 3) := by decide +kernel
theorem dX6_reads_99 : decode cX6_reads 99 = .ok (.aload_n 0, 1) := by decide +kernel
theorem dX6_reads_100 : decode cX6_reads 100 = .ok (.getfield 132, 3) := by decide +kernel
theorem dX6_reads_103 : decode cX6_reads 103 = .ok (.iconst 3, 1) := by decide +kernel
theorem dX6_reads_104 : decode cX6_reads 104 = .ok (.if_icmp .eq 5, 3) := by decide +kernel
theorem dX6_reads_107 : decode cX6_reads 107 = .ok (.iconst 0, 1) := by decide +kernel
theorem dX6_reads_108 : decode cX6_reads 108 = .ok (.ireturn, 1) := by decide +kernel
theorem dX6_reads_109 : decode cX6_reads 109 = .ok (.aload_n 0, 1) := by decide +kernel
theorem dX6_reads_110 : decode cX6_reads 110 = .ok (.dup, 1) := by decide +kernel
theorem dX6_reads_111 : decode cX6_reads 111 = .ok (.getfield 146, 3) := by decide +kernel
theorem dX6_reads_114 : decode cX6_reads 114 = .ok (.iconst 1, 1) := by decide +kernel
theorem dX6_reads_115 : decode cX6_reads 115 = .ok (.iadd, 1) := by decide +kernel
theorem dX6_reads_116 : decode cX6_reads 116 = .ok (.putfield 146, 3) := by decide +kernel
theorem dX6_reads_119 : decode cX6_reads 119 = .ok (.aload_n 0, 1) := by decide +kernel
theorem dX6_reads_120 : decode cX6_reads 120 = .ok (.invokevirtual 149, 3) := by decide +kernel
theorem dX6_reads_123 : decode cX6_reads 123 = .ok (.goto (-109), 3) := by decide +kernel
theorem dX6_reads_126 : decode cX6_reads 126 = .ok (.iconst 1, 1) := by decide +kernel
theorem dX6_reads_127 : decode cX6_reads 127 = .ok (.ireturn, 1) := by decide +kernel
set_option maxRecDepth 20000 in
theorem ggX6_tellsItem_X6_bolt : GoodIn wsX6_tellsItem wsX6_bolt := goodIn_r _ [6, 7, 8, 9, 10, 11, 5, 12, 13, 14, 15, 16, 17, 18, 19, 20, 21, 22, 23, 24, 25, 26, 27, 28, 29, 30, 59, 60, 61, 62, 63, 64, 65, 66, 67, 68, 69, 70, 71, 72, 73, 74, 75, 76, 77, 78] (by decide +kernel) (by decide +kernel)
set_option maxRecDepth 20000 in
theorem gX6_tellsItem_X6_bolt : GoodIn wsX6_tellsItem (wsV RX6 156 RX6 yX6_bolt wsX6_bolt) := goodIn_app (goodIn_of _ (by decide +kernel)) ggX6_tellsItem_X6_bolt
set_option maxRecDepth 20000 in
theorem ggX6_tellsItem_X6_moth : GoodIn wsX6_tellsItem wsX6_moth := goodIn_r _ [34, 35, 9, 10, 11, 5, 12, 13, 14, 15, 16, 17, 18, 19, 20, 21, 22, 23, 24, 25, 26, 27, 28, 29, 30, 59, 60, 61, 62, 63, 64, 65, 66, 67, 68, 69, 70, 71, 72, 73, 74, 75, 76, 77, 78] (by decide +kernel) (by decide +kernel)
set_option maxRecDepth 20000 in
theorem gX6_tellsItem_X6_moth : GoodIn wsX6_tellsItem (wsV RX6 159 RX6 yX6_moth wsX6_moth) := goodIn_app (goodIn_of _ (by decide +kernel)) ggX6_tellsItem_X6_moth
set_option maxRecDepth 20000 in
theorem ggX6_tellsItem_X6_taste : GoodIn wsX6_tellsItem wsX6_taste := goodIn_r _ [39, 7, 40, 9, 10, 11, 5, 12, 13, 14, 15, 16, 17, 18, 19, 20, 21, 22, 59, 60, 61, 62, 63, 64, 65, 66, 67, 68, 69, 70, 71, 72, 73, 74, 75, 76, 77, 78] (by decide +kernel) (by decide +kernel)
set_option maxRecDepth 20000 in
theorem gX6_tellsItem_X6_taste : GoodIn wsX6_tellsItem (wsV RX6 162 RX6 yX6_taste wsX6_taste) := goodIn_app (goodIn_of _ (by decide +kernel)) ggX6_tellsItem_X6_taste
set_option maxRecDepth 20000 in
theorem ggX6_tellsItem_X6_holes : GoodIn wsX6_tellsItem wsX6_holes := goodIn_r _ [44, 8, 9, 45, 46, 47, 5, 48, 10, 11, 12, 17, 18, 19, 20, 21, 22, 49, 50, 51, 52, 59, 60, 61, 62, 63, 64, 65, 66, 67, 68, 69, 70, 71, 72, 73, 74, 75, 76, 77, 78] (by decide +kernel) (by decide +kernel)
set_option maxRecDepth 20000 in
theorem gX6_tellsItem_X6_holes : GoodIn wsX6_tellsItem (wsV RX6 165 RX6 yX6_holes wsX6_holes) := goodIn_app (goodIn_of _ (by decide +kernel)) ggX6_tellsItem_X6_holes
set_option maxRecDepth 20000 in
theorem ggX6_tellsItem_X6_put : GoodIn wsX6_tellsItem wsX6_put := goodIn_r _ [56, 57, 58, 8, 40, 9, 10, 11, 5, 12, 13, 14, 15, 16, 17, 18, 19, 20, 21, 22, 27, 28, 29, 30, 59, 60, 61, 62, 63, 64, 65, 66, 67, 68, 69, 70, 71, 72, 73, 74, 75, 76, 77, 78] (by decide +kernel) (by decide +kernel)
set_option maxRecDepth 20000 in
theorem gX6_tellsItem_X6_put : GoodIn wsX6_tellsItem (wsV RX6 168 RX6 yX6_put wsX6_put) := goodIn_app (goodIn_of _ (by decide +kernel)) ggX6_tellsItem_X6_put
theorem dX6_tellsItem_0 : decode cX6_tellsItem 0 = .ok (.aload_n 0, 1) := by decide +kernel
theorem dX6_tellsItem_1 : decode cX6_tellsItem 1 = .ok (.getfield 29, 3) := by decide +kernel
theorem dX6_tellsItem_4 : decode cX6_tellsItem 4 = .ok (.iconst 4, 1) := by decide +kernel
theorem dX6_tellsItem_5 : decode cX6_tellsItem 5 = .ok (.iload_n 1, 1) := by decide +kernel
theorem dX6_tellsItem_6 : decode cX6_tellsItem 6 = .ok (.imul, 1) := by decide +kernel
theorem dX6_tellsItem_7 : decode cX6_tellsItem 7 = .ok (.iconst 1, 1) := by decide +kernel
theorem dX6_tellsItem_8 : decode cX6_tellsItem 8 = .ok (.iadd, 1) := by decide +kernel
theorem dX6_tellsItem_9 : decode cX6_tellsItem 9 = .ok (.iaload, 1) := by decide +kernel
theorem dX6_tellsItem_10 : decode cX6_tellsItem 10 = .ok (.istore_n 2, 1) := by decide +kernel
theorem dX6_tellsItem_11 : decode cX6_tellsItem 11 = .ok (.aload_n 0, 1) := by decide +kernel
theorem dX6_tellsItem_12 : decode cX6_tellsItem 12 = .ok (.getfield 29, 3) := by decide +kernel
theorem dX6_tellsItem_15 : decode cX6_tellsItem 15 = .ok (.iconst 4, 1) := by decide +kernel
theorem dX6_tellsItem_16 : decode cX6_tellsItem 16 = .ok (.iload_n 1, 1) := by decide +kernel
theorem dX6_tellsItem_17 : decode cX6_tellsItem 17 = .ok (.imul, 1) := by decide +kernel
theorem dX6_tellsItem_18 : decode cX6_tellsItem 18 = .ok (.iconst 2, 1) := by decide +kernel
theorem dX6_tellsItem_19 : decode cX6_tellsItem 19 = .ok (.iadd, 1) := by decide +kernel
theorem dX6_tellsItem_20 : decode cX6_tellsItem 20 = .ok (.iaload, 1) := by decide +kernel
theorem dX6_tellsItem_21 : decode cX6_tellsItem 21 = .ok (.istore_n 3, 1) := by decide +kernel
theorem dX6_tellsItem_22 : decode cX6_tellsItem 22 = .ok (.aload_n 0, 1) := by decide +kernel
theorem dX6_tellsItem_23 : decode cX6_tellsItem 23 = .ok (.getfield 29, 3) := by decide +kernel
theorem dX6_tellsItem_26 : decode cX6_tellsItem 26 = .ok (.iconst 4, 1) := by decide +kernel
theorem dX6_tellsItem_27 : decode cX6_tellsItem 27 = .ok (.iload_n 1, 1) := by decide +kernel
theorem dX6_tellsItem_28 : decode cX6_tellsItem 28 = .ok (.imul, 1) := by decide +kernel
theorem dX6_tellsItem_29 : decode cX6_tellsItem 29 = .ok (.iaload, 1) := by decide +kernel
theorem dX6_tellsItem_30 : decode cX6_tellsItem 30 = .ok (.istore 4, 2) := by decide +kernel
theorem dX6_tellsItem_32 : decode cX6_tellsItem 32 = .ok (.iload 4, 2) := by decide +kernel
theorem dX6_tellsItem_34 : decode cX6_tellsItem 34 = .ok (.ifCond .ne 22, 3) := by decide +kernel
theorem dX6_tellsItem_37 : decode cX6_tellsItem 37 = .ok (.aload_n 0, 1) := by decide +kernel
theorem dX6_tellsItem_38 : decode cX6_tellsItem 38 = .ok (.iload_n 2, 1) := by decide +kernel
theorem dX6_tellsItem_39 : decode cX6_tellsItem 39 = .ok (.iload_n 3, 1) := by decide +kernel
theorem dX6_tellsItem_40 : decode cX6_tellsItem 40 = .ok (.aload_n 0, 1) := by decide +kernel
theorem dX6_tellsItem_41 : decode cX6_tellsItem 41 = .ok (.getfield 29, 3) := by decide +kernel
theorem dX6_tellsItem_44 : decode cX6_tellsItem 44 = .ok (.iconst 4, 1) := by decide +kernel
theorem dX6_tellsItem_45 : decode cX6_tellsItem 45 = .ok (.iload_n 1, 1) := by decide +kernel
theorem dX6_tellsItem_46 : decode cX6_tellsItem 46 = .ok (.imul, 1) := by decide +kernel
theorem dX6_tellsItem_47 : decode cX6_tellsItem 47 = .ok (.iconst 3, 1) := by decide +kernel
theorem dX6_tellsItem_48 : decode cX6_tellsItem 48 = .ok (.iadd, 1) := by decide +kernel
theorem dX6_tellsItem_49 : decode cX6_tellsItem 49 = .ok (.iaload, 1) := by decide +kernel
theorem dX6_tellsItem_50 : decode cX6_tellsItem 50 = .ok (.invokevirtual 156, 3) := by decide +kernel
theorem dX6_tellsItem_53 : decode cX6_tellsItem 53 = .ok (.goto 57, 3) := by decide +kernel
theorem dX6_tellsItem_56 : decode cX6_tellsItem 56 = .ok (.iload 4, 2) := by decide +kernel
theorem dX6_tellsItem_58 : decode cX6_tellsItem 58 = .ok (.iconst 1, 1) := by decide +kernel
theorem dX6_tellsItem_59 : decode cX6_tellsItem 59 = .ok (.if_icmp .ne 11, 3) := by decide +kernel
theorem dX6_tellsItem_62 : decode cX6_tellsItem 62 = .ok (.aload_n 0, 1) := by decide +kernel
theorem dX6_tellsItem_63 : decode cX6_tellsItem 63 = .ok (.iload_n 2, 1) := by decide +kernel
theorem dX6_tellsItem_64 : decode cX6_tellsItem 64 = .ok (.invokevirtual 159, 3) := by decide +kernel
theorem dX6_tellsItem_67 : decode cX6_tellsItem 67 = .ok (.goto 43, 3) := by decide +kernel
theorem dX6_tellsItem_70 : decode cX6_tellsItem 70 = .ok (.iload 4, 2) := by decide +kernel
theorem dX6_tellsItem_72 : decode cX6_tellsItem 72 = .ok (.iconst 2, 1) := by decide +kernel
theorem dX6_tellsItem_73 : decode cX6_tellsItem 73 = .ok (.if_icmp .ne 12, 3) := by decide +kernel
theorem dX6_tellsItem_76 : decode cX6_tellsItem 76 = .ok (.aload_n 0, 1) := by decide +kernel
theorem dX6_tellsItem_77 : decode cX6_tellsItem 77 = .ok (.iload_n 2, 1) := by decide +kernel
theorem dX6_tellsItem_78 : decode cX6_tellsItem 78 = .ok (.iload_n 3, 1) := by decide +kernel
theorem dX6_tellsItem_79 : decode cX6_tellsItem 79 = .ok (.invokevirtual 162, 3) := by decide +kernel
theorem dX6_tellsItem_82 : decode cX6_tellsItem 82 = .ok (.goto 28, 3) := by decide +kernel
theorem dX6_tellsItem_85 : decode cX6_tellsItem 85 = .ok (.iload 4, 2) := by decide +kernel
theorem dX6_tellsItem_87 : decode cX6_tellsItem 87 = .ok (.bipush 6, 2) := by decide +kernel
theorem dX6_tellsItem_89 : decode cX6_tellsItem 89 = .ok (.if_icmp .ne 12, 3) := by decide +kernel
theorem dX6_tellsItem_92 : decode cX6_tellsItem 92 = .ok (.aload_n 0, 1) := by decide +kernel
theorem dX6_tellsItem_93 : decode cX6_tellsItem 93 = .ok (.iload_n 2, 1) := by decide +kernel
theorem dX6_tellsItem_94 : decode cX6_tellsItem 94 = .ok (.iload_n 3, 1) := by decide +kernel
theorem dX6_tellsItem_95 : decode cX6_tellsItem 95 = .ok (.invokevirtual 165, 3) := by decide +kernel
theorem dX6_tellsItem_98 : decode cX6_tellsItem 98 = .ok (.goto 12, 3) := by decide +kernel
theorem dX6_tellsItem_101 : decode cX6_tellsItem 101 = .ok (.aload_n 0, 1) := by decide +kernel
theorem dX6_tellsItem_102 : decode cX6_tellsItem 102 = .ok (.iload 4, 2) := by decide +kernel
theorem dX6_tellsItem_104 : decode cX6_tellsItem 104 = .ok (.iconst 3, 1) := by decide +kernel
theorem dX6_tellsItem_105 : decode cX6_tellsItem 105 = .ok (.isub, 1) := by decide +kernel
theorem dX6_tellsItem_106 : decode cX6_tellsItem 106 = .ok (.iload_n 2, 1) := by decide +kernel
theorem dX6_tellsItem_107 : decode cX6_tellsItem 107 = .ok (.invokevirtual 168, 3) := by decide +kernel
theorem dX6_tellsItem_110 : decode cX6_tellsItem 110 = .ok (.istore 5, 2) := by decide +kernel
theorem dX6_tellsItem_112 : decode cX6_tellsItem 112 = .ok (.iload 5, 2) := by decide +kernel
theorem dX6_tellsItem_114 : decode cX6_tellsItem 114 = .ok (.iconst (-1), 1) := by decide +kernel
theorem dX6_tellsItem_115 : decode cX6_tellsItem 115 = .ok (.if_icmp .lt 7, 3) := by decide +kernel
theorem dX6_tellsItem_118 : decode cX6_tellsItem 118 = .ok (.iconst 1, 1) := by decide +kernel
theorem dX6_tellsItem_119 : decode cX6_tellsItem 119 = .ok (.goto 4, 3) := by decide +kernel
theorem dX6_tellsItem_122 : decode cX6_tellsItem 122 = .ok (.iconst 0, 1) := by decide +kernel
theorem dX6_tellsItem_123 : decode cX6_tellsItem 123 = .ok (.ireturn, 1) := by decide +kernel
set_option maxRecDepth 20000 in
theorem ggX6_read_X6_reads : GoodIn wsX6_read wsX6_reads := goodIn_r _ [10, 11, 5, 12, 13, 14, 15, 16, 17, 9, 18, 1, 19, 20, 21, 22, 23, 24, 25, 26, 27, 28, 29, 30, 31, 32, 33, 34, 35, 36, 37, 38, 39, 40, 41, 42, 102, 103, 104, 105, 106, 107, 108, 109, 110, 111, 112, 113, 114, 115, 116, 117, 118, 119, 120, 121] (by decide +kernel) (by decide +kernel)
set_option maxRecDepth 20000 in
theorem gX6_read_X6_reads : GoodIn wsX6_read (wsV RX6 171 RX6 yX6_reads wsX6_reads) := goodIn_app (goodIn_of _ (by decide +kernel)) ggX6_read_X6_reads
set_option maxRecDepth 20000 in
theorem ggX6_read_X6_begins : GoodIn wsX6_read wsX6_begins := goodIn_r _ [46, 3, 47, 48, 49, 9, 50, 102, 103, 104, 105, 106, 107, 108, 109, 110, 111, 112, 113, 114, 115, 116, 117, 118, 119, 120, 121] (by decide +kernel) (by decide +kernel)
set_option maxRecDepth 20000 in
theorem gX6_read_X6_begins : GoodIn wsX6_read (wsV RX6 38 RX6 yX6_begins wsX6_begins) := goodIn_app (goodIn_of _ (by decide +kernel)) ggX6_read_X6_begins
set_option maxRecDepth 20000 in
theorem ggX6_read_X6_tellsItem : GoodIn wsX6_read wsX6_tellsItem := goodIn_r _ [54, 13, 55, 56, 57, 9, 58, 59, 60, 3, 27, 28, 29, 61, 62, 63, 64, 65, 66, 67, 68, 69, 4, 70, 71, 72, 73, 47, 48, 49, 50, 74, 75, 76, 77, 78, 79, 80, 81, 82, 83, 84, 85, 86, 87, 88, 89, 90, 91, 92, 93, 94, 95, 96, 97, 98, 99, 100, 101, 102, 103, 104, 105, 106, 107, 108, 109, 110, 111, 112, 113, 114, 115, 116, 117, 118, 119, 120, 121] (by decide +kernel) (by decide +kernel)
set_option maxRecDepth 20000 in
theorem gX6_read_X6_tellsItem : GoodIn wsX6_read (wsV RX6 175 RX6 yX6_tellsItem wsX6_tellsItem) := goodIn_app (goodIn_of _ (by decide +kernel)) ggX6_read_X6_tellsItem
set_option maxRecDepth 20000 in
theorem ggX6_read_X6_anew : GoodIn wsX6_read wsX6_anew := goodIn_r _ [50, 3, 102, 103, 104, 105, 106, 107, 108, 109, 110, 111, 112, 113, 114, 115, 116, 117, 118, 119, 120, 121] (by decide +kernel) (by decide +kernel)
set_option maxRecDepth 20000 in
theorem gX6_read_X6_anew : GoodIn wsX6_read (wsV RX6 45 RX6 yX6_anew wsX6_anew) := goodIn_app (goodIn_of _ (by decide +kernel)) ggX6_read_X6_anew
theorem dX6_read_0 : decode cX6_read 0 = .ok (.aload_n 0, 1) := by decide +kernel
theorem dX6_read_1 : decode cX6_read 1 = .ok (.invokevirtual 171, 3) := by decide +kernel
theorem dX6_read_4 : decode cX6_read 4 = .ok (.ifCond .ne 11, 3) := by decide +kernel
theorem dX6_read_7 : decode cX6_read 7 = .ok (.bipush (-10), 2) := by decide +kernel
theorem dX6_read_9 : decode cX6_read 9 = .ok (.aload_n 0, 1) := by decide +kernel
theorem dX6_read_10 : decode cX6_read 10 = .ok (.getfield 129, 3) := by decide +kernel
theorem dX6_read_13 : decode cX6_read 13 = .ok (.isub, 1) := by decide +kernel
theorem dX6_read_14 : decode cX6_read 14 = .ok (.ireturn, 1) := by decide +kernel
theorem dX6_read_15 : decode cX6_read 15 = .ok (.iconst 0, 1) := by decide +kernel
theorem dX6_read_16 : decode cX6_read 16 = .ok (.istore_n 1, 1) := by decide +kernel
theorem dX6_read_17 : decode cX6_read 17 = .ok (.iload_n 1, 1) := by decide +kernel
theorem dX6_read_18 : decode cX6_read 18 = .ok (.bipush 80, 2) := by decide +kernel
theorem dX6_read_20 : decode cX6_read 20 = .ok (.if_icmp .ge 21, 3) := by decide +kernel
theorem dX6_read_23 : decode cX6_read 23 = .ok (.aload_n 0, 1) := by decide +kernel
theorem dX6_read_24 : decode cX6_read 24 = .ok (.getfield 20, 3) := by decide +kernel
theorem dX6_read_27 : decode cX6_read 27 = .ok (.iload_n 1, 1) := by decide +kernel
theorem dX6_read_28 : decode cX6_read 28 = .ok (.aload_n 0, 1) := by decide +kernel
theorem dX6_read_29 : decode cX6_read 29 = .ok (.getfield 7, 3) := by decide +kernel
theorem dX6_read_32 : decode cX6_read 32 = .ok (.iload_n 1, 1) := by decide +kernel
theorem dX6_read_33 : decode cX6_read 33 = .ok (.iaload, 1) := by decide +kernel
theorem dX6_read_34 : decode cX6_read 34 = .ok (.iastore, 1) := by decide +kernel
theorem dX6_read_35 : decode cX6_read 35 = .ok (.iinc 1 1, 3) := by decide +kernel
theorem dX6_read_38 : decode cX6_read 38 = .ok (.goto (-21), 3) := by decide +kernel
theorem dX6_read_41 : decode cX6_read 41 = .ok (.aload_n 0, 1) := by decide +kernel
theorem dX6_read_42 : decode cX6_read 42 = .ok (.invokevirtual 38, 3) := by decide +kernel
theorem dX6_read_45 : decode cX6_read 45 = .ok (.aload_n 0, 1) := by decide +kernel
theorem dX6_read_46 : decode cX6_read 46 = .ok (.iconst 1, 1) := by decide +kernel
theorem dX6_read_47 : decode cX6_read 47 = .ok (.putfield 48, 3) := by decide +kernel
theorem dX6_read_50 : decode cX6_read 50 = .ok (.iconst 0, 1) := by decide +kernel
theorem dX6_read_51 : decode cX6_read 51 = .ok (.istore_n 1, 1) := by decide +kernel
theorem dX6_read_52 : decode cX6_read 52 = .ok (.iload_n 1, 1) := by decide +kernel
theorem dX6_read_53 : decode cX6_read 53 = .ok (.aload_n 0, 1) := by decide +kernel
theorem dX6_read_54 : decode cX6_read 54 = .ok (.getfield 146, 3) := by decide +kernel
theorem dX6_read_57 : decode cX6_read 57 = .ok (.if_icmp .ge 17, 3) := by decide +kernel
theorem dX6_read_60 : decode cX6_read 60 = .ok (.aload_n 0, 1) := by decide +kernel
theorem dX6_read_61 : decode cX6_read 61 = .ok (.iload_n 1, 1) := by decide +kernel
theorem dX6_read_62 : decode cX6_read 62 = .ok (.invokevirtual 175, 3) := by decide +kernel
theorem dX6_read_65 : decode cX6_read 65 = .ok (.ifCond .eq 9, 3) := by decide +kernel
theorem dX6_read_68 : decode cX6_read 68 = .ok (.iinc 1 1, 3) := by decide +kernel
theorem dX6_read_71 : decode cX6_read 71 = .ok (.goto (-19), 3) := by decide +kernel
theorem dX6_read_74 : decode cX6_read 74 = .ok (.aload_n 0, 1) := by decide +kernel
theorem dX6_read_75 : decode cX6_read 75 = .ok (.iconst 0, 1) := by decide +kernel
theorem dX6_read_76 : decode cX6_read 76 = .ok (.putfield 48, 3) := by decide +kernel
theorem dX6_read_79 : decode cX6_read 79 = .ok (.iload_n 1, 1) := by decide +kernel
theorem dX6_read_80 : decode cX6_read 80 = .ok (.aload_n 0, 1) := by decide +kernel
theorem dX6_read_81 : decode cX6_read 81 = .ok (.getfield 146, 3) := by decide +kernel
theorem dX6_read_84 : decode cX6_read 84 = .ok (.if_icmp .ne 12, 3) := by decide +kernel
theorem dX6_read_87 : decode cX6_read 87 = .ok (.aload_n 0, 1) := by decide +kernel
theorem dX6_read_88 : decode cX6_read 88 = .ok (.invokevirtual 45, 3) := by decide +kernel
theorem dX6_read_91 : decode cX6_read 91 = .ok (.aload_n 0, 1) := by decide +kernel
theorem dX6_read_92 : decode cX6_read 92 = .ok (.getfield 146, 3) := by decide +kernel
theorem dX6_read_95 : decode cX6_read 95 = .ok (.ireturn, 1) := by decide +kernel
theorem dX6_read_96 : decode cX6_read 96 = .ok (.iconst 0, 1) := by decide +kernel
theorem dX6_read_97 : decode cX6_read 97 = .ok (.istore_n 2, 1) := by decide +kernel
theorem dX6_read_98 : decode cX6_read 98 = .ok (.iload_n 2, 1) := by decide +kernel
theorem dX6_read_99 : decode cX6_read 99 = .ok (.bipush 80, 2) := by decide +kernel
theorem dX6_read_101 : decode cX6_read 101 = .ok (.if_icmp .ge 21, 3) := by decide +kernel
theorem dX6_read_104 : decode cX6_read 104 = .ok (.aload_n 0, 1) := by decide +kernel
theorem dX6_read_105 : decode cX6_read 105 = .ok (.getfield 7, 3) := by decide +kernel
theorem dX6_read_108 : decode cX6_read 108 = .ok (.iload_n 2, 1) := by decide +kernel
theorem dX6_read_109 : decode cX6_read 109 = .ok (.aload_n 0, 1) := by decide +kernel
theorem dX6_read_110 : decode cX6_read 110 = .ok (.getfield 20, 3) := by decide +kernel
theorem dX6_read_113 : decode cX6_read 113 = .ok (.iload_n 2, 1) := by decide +kernel
theorem dX6_read_114 : decode cX6_read 114 = .ok (.iaload, 1) := by decide +kernel
theorem dX6_read_115 : decode cX6_read 115 = .ok (.iastore, 1) := by decide +kernel
theorem dX6_read_116 : decode cX6_read 116 = .ok (.iinc 2 1, 3) := by decide +kernel
theorem dX6_read_119 : decode cX6_read 119 = .ok (.goto (-21), 3) := by decide +kernel
theorem dX6_read_122 : decode cX6_read 122 = .ok (.sipush (-1000), 3) := by decide +kernel
theorem dX6_read_125 : decode cX6_read 125 = .ok (.iload_n 1, 1) := by decide +kernel
theorem dX6_read_126 : decode cX6_read 126 = .ok (.isub, 1) := by decide +kernel
theorem dX6_read_127 : decode cX6_read 127 = .ok (.ireturn, 1) := by decide +kernel
set_option maxRecDepth 20000 in
theorem ggX6_pleases_X6_ofBolt : GoodIn wsX6_pleases wsX6_ofBolt := goodIn_r _ [6, 1, 11, 12, 13, 14, 15, 16, 17, 18, 19, 20, 21, 22, 23, 24, 25, 26, 27, 28, 29, 30] (by decide +kernel) (by decide +kernel)
set_option maxRecDepth 20000 in
theorem gX6_pleases_X6_ofBolt : GoodIn wsX6_pleases (wsV RX6 86 RX6 yX6_ofBolt wsX6_ofBolt) := goodIn_app (goodIn_of _ (by decide +kernel)) ggX6_pleases_X6_ofBolt
set_option maxRecDepth 20000 in
theorem ggX6_pleases_X6_wants : GoodIn wsX6_pleases wsX6_wants := goodIn_r _ [10, 1, 2, 3, 4, 5, 6, 11, 12, 13, 14, 15, 16, 17, 18, 19, 20, 21, 22, 23, 24, 25, 26, 27, 28, 29, 30] (by decide +kernel) (by decide +kernel)
set_option maxRecDepth 20000 in
theorem gX6_pleases_X6_wants : GoodIn wsX6_pleases (wsV RX6 96 RX6 yX6_wants wsX6_wants) := goodIn_app (goodIn_of _ (by decide +kernel)) ggX6_pleases_X6_wants
theorem dX6_pleases_0 : decode cX6_pleases 0 = .ok (.iconst 0, 1) := by decide +kernel
theorem dX6_pleases_1 : decode cX6_pleases 1 = .ok (.istore_n 2, 1) := by decide +kernel
theorem dX6_pleases_2 : decode cX6_pleases 2 = .ok (.iconst 0, 1) := by decide +kernel
theorem dX6_pleases_3 : decode cX6_pleases 3 = .ok (.istore_n 3, 1) := by decide +kernel
theorem dX6_pleases_4 : decode cX6_pleases 4 = .ok (.iload_n 3, 1) := by decide +kernel
theorem dX6_pleases_5 : decode cX6_pleases 5 = .ok (.aload_n 0, 1) := by decide +kernel
theorem dX6_pleases_6 : decode cX6_pleases 6 = .ok (.getfield 7, 3) := by decide +kernel
theorem dX6_pleases_9 : decode cX6_pleases 9 = .ok (.iconst 1, 1) := by decide +kernel
theorem dX6_pleases_10 : decode cX6_pleases 10 = .ok (.iaload, 1) := by decide +kernel
theorem dX6_pleases_11 : decode cX6_pleases 11 = .ok (.if_icmp .ge 24, 3) := by decide +kernel
theorem dX6_pleases_14 : decode cX6_pleases 14 = .ok (.iload_n 2, 1) := by decide +kernel
theorem dX6_pleases_15 : decode cX6_pleases 15 = .ok (.aload_n 0, 1) := by decide +kernel
theorem dX6_pleases_16 : decode cX6_pleases 16 = .ok (.iload_n 3, 1) := by decide +kernel
theorem dX6_pleases_17 : decode cX6_pleases 17 = .ok (.iload_n 1, 1) := by decide +kernel
theorem dX6_pleases_18 : decode cX6_pleases 18 = .ok (.aload_n 0, 1) := by decide +kernel
theorem dX6_pleases_19 : decode cX6_pleases 19 = .ok (.iload_n 1, 1) := by decide +kernel
theorem dX6_pleases_20 : decode cX6_pleases 20 = .ok (.iconst 1, 1) := by decide +kernel
theorem dX6_pleases_21 : decode cX6_pleases 21 = .ok (.invokevirtual 86, 3) := by decide +kernel
theorem dX6_pleases_24 : decode cX6_pleases 24 = .ok (.invokevirtual 96, 3) := by decide +kernel
theorem dX6_pleases_27 : decode cX6_pleases 27 = .ok (.iadd, 1) := by decide +kernel
theorem dX6_pleases_28 : decode cX6_pleases 28 = .ok (.istore_n 2, 1) := by decide +kernel
theorem dX6_pleases_29 : decode cX6_pleases 29 = .ok (.iinc 3 1, 3) := by decide +kernel
theorem dX6_pleases_32 : decode cX6_pleases 32 = .ok (.goto (-28), 3) := by decide +kernel
theorem dX6_pleases_35 : decode cX6_pleases 35 = .ok (.iload_n 2, 1) := by decide +kernel
theorem dX6_pleases_36 : decode cX6_pleases 36 = .ok (.aload_n 0, 1) := by decide +kernel
theorem dX6_pleases_37 : decode cX6_pleases 37 = .ok (.getfield 7, 3) := by decide +kernel
theorem dX6_pleases_40 : decode cX6_pleases 40 = .ok (.iconst 5, 1) := by decide +kernel
theorem dX6_pleases_41 : decode cX6_pleases 41 = .ok (.iaload, 1) := by decide +kernel
theorem dX6_pleases_42 : decode cX6_pleases 42 = .ok (.if_icmp .lt 7, 3) := by decide +kernel
theorem dX6_pleases_45 : decode cX6_pleases 45 = .ok (.iconst 1, 1) := by decide +kernel
theorem dX6_pleases_46 : decode cX6_pleases 46 = .ok (.goto 4, 3) := by decide +kernel
theorem dX6_pleases_49 : decode cX6_pleases 49 = .ok (.iconst 0, 1) := by decide +kernel
theorem dX6_pleases_50 : decode cX6_pleases 50 = .ok (.ireturn, 1) := by decide +kernel
set_option maxRecDepth 20000 in
theorem ggX6_pleased_X6_isBolt : GoodIn wsX6_pleased wsX6_isBolt := goodIn_r _ [5, 6, 7, 8, 4, 9, 32, 33, 34, 35, 36, 37, 38, 39, 40, 41, 42, 43, 44, 45, 46, 47, 48, 49, 50, 51] (by decide +kernel) (by decide +kernel)
set_option maxRecDepth 20000 in
theorem gX6_pleased_X6_isBolt : GoodIn wsX6_pleased (wsV RX6 93 RX6 yX6_isBolt wsX6_isBolt) := goodIn_app (goodIn_of _ (by decide +kernel)) ggX6_pleased_X6_isBolt
set_option maxRecDepth 20000 in
theorem ggX6_pleased_X6_pleases : GoodIn wsX6_pleased wsX6_pleases := goodIn_r _ [13, 6, 14, 15, 16, 4, 17, 18, 19, 20, 21, 32, 33, 34, 35, 36, 37, 38, 39, 40, 41, 42, 43, 44, 45, 46, 47, 48, 49, 50, 51] (by decide +kernel) (by decide +kernel)
set_option maxRecDepth 20000 in
theorem gX6_pleased_X6_pleases : GoodIn wsX6_pleased (wsV RX6 178 RX6 yX6_pleases wsX6_pleases) := goodIn_app (goodIn_of _ (by decide +kernel)) ggX6_pleased_X6_pleases
set_option maxRecDepth 20000 in
theorem ggX6_pleased_X6_bad : GoodIn wsX6_pleased wsX6_bad := goodIn_r _ [25, 26, 27, 28, 4, 29, 30, 31, 32, 33, 34, 35, 36, 37, 38, 39, 40, 41, 42, 43, 44, 45, 46, 47, 48, 49, 50, 51] (by decide +kernel) (by decide +kernel)
set_option maxRecDepth 20000 in
theorem gX6_pleased_X6_bad : GoodIn wsX6_pleased (wsV RX6 71 RX6 yX6_bad wsX6_bad) := goodIn_app (goodIn_of _ (by decide +kernel)) ggX6_pleased_X6_bad
theorem dX6_pleased_0 : decode cX6_pleased 0 = .ok (.aload_n 0, 1) := by decide +kernel
theorem dX6_pleased_1 : decode cX6_pleased 1 = .ok (.iload_n 1, 1) := by decide +kernel
theorem dX6_pleased_2 : decode cX6_pleased 2 = .ok (.invokevirtual 93, 3) := by decide +kernel
theorem dX6_pleased_5 : decode cX6_pleased 5 = .ok (.ifCond .eq 19, 3) := by decide +kernel
theorem dX6_pleased_8 : decode cX6_pleased 8 = .ok (.aload_n 0, 1) := by decide +kernel
theorem dX6_pleased_9 : decode cX6_pleased 9 = .ok (.iload_n 1, 1) := by decide +kernel
theorem dX6_pleased_10 : decode cX6_pleased 10 = .ok (.invokevirtual 178, 3) := by decide +kernel
theorem dX6_pleased_13 : decode cX6_pleased 13 = .ok (.ifCond .eq 7, 3) := by decide +kernel
theorem dX6_pleased_16 : decode cX6_pleased 16 = .ok (.iconst 1, 1) := by decide +kernel
theorem dX6_pleased_17 : decode cX6_pleased 17 = .ok (.goto 11, 3) := by decide +kernel
theorem dX6_pleased_20 : decode cX6_pleased 20 = .ok (.iconst 0, 1) := by decide +kernel
theorem dX6_pleased_21 : decode cX6_pleased 21 = .ok (.goto 7, 3) := by decide +kernel
theorem dX6_pleased_24 : decode cX6_pleased 24 = .ok (.aload_n 0, 1) := by decide +kernel
theorem dX6_pleased_25 : decode cX6_pleased 25 = .ok (.invokevirtual 71, 3) := by decide +kernel
theorem dX6_pleased_28 : decode cX6_pleased 28 = .ok (.ireturn, 1) := by decide +kernel
theorem dX6_groups_0 : decode cX6_groups 0 = .ok (.aload_n 0, 1) := by decide +kernel
theorem dX6_groups_1 : decode cX6_groups 1 = .ok (.getfield 7, 3) := by decide +kernel
theorem dX6_groups_4 : decode cX6_groups 4 = .ok (.iconst 0, 1) := by decide +kernel
theorem dX6_groups_5 : decode cX6_groups 5 = .ok (.iaload, 1) := by decide +kernel
theorem dX6_groups_6 : decode cX6_groups 6 = .ok (.iload_n 1, 1) := by decide +kernel
theorem dX6_groups_7 : decode cX6_groups 7 = .ok (.iadd, 1) := by decide +kernel
theorem dX6_groups_8 : decode cX6_groups 8 = .ok (.iconst 1, 1) := by decide +kernel
theorem dX6_groups_9 : decode cX6_groups 9 = .ok (.isub, 1) := by decide +kernel
theorem dX6_groups_10 : decode cX6_groups 10 = .ok (.iload_n 1, 1) := by decide +kernel
theorem dX6_groups_11 : decode cX6_groups 11 = .ok (.idiv, 1) := by decide +kernel
theorem dX6_groups_12 : decode cX6_groups 12 = .ok (.ireturn, 1) := by decide +kernel
set_option maxRecDepth 20000 in
theorem ggX6_moodBehind_X6_pleases : GoodIn wsX6_moodBehind wsX6_pleases := goodIn_r _ [5, 6, 7, 8, 9, 4, 10, 11, 12, 13, 14, 15, 16, 17, 18, 19, 20, 21, 22, 23, 24, 25, 26, 27, 28, 29, 30, 31, 32, 33, 34] (by decide +kernel) (by decide +kernel)
set_option maxRecDepth 20000 in
theorem gX6_moodBehind_X6_pleases : GoodIn wsX6_moodBehind (wsV RX6 178 RX6 yX6_pleases wsX6_pleases) := goodIn_app (goodIn_of _ (by decide +kernel)) ggX6_moodBehind_X6_pleases
theorem dX6_moodBehind_0 : decode cX6_moodBehind 0 = .ok (.iload_n 2, 1) := by decide +kernel
theorem dX6_moodBehind_1 : decode cX6_moodBehind 1 = .ok (.bipush 12, 2) := by decide +kernel
theorem dX6_moodBehind_3 : decode cX6_moodBehind 3 = .ok (.if_icmp .ne 9, 3) := by decide +kernel
theorem dX6_moodBehind_6 : decode cX6_moodBehind 6 = .ok (.iload_n 1, 1) := by decide +kernel
theorem dX6_moodBehind_7 : decode cX6_moodBehind 7 = .ok (.iconst 2, 1) := by decide +kernel
theorem dX6_moodBehind_8 : decode cX6_moodBehind 8 = .ok (.isub, 1) := by decide +kernel
theorem dX6_moodBehind_9 : decode cX6_moodBehind 9 = .ok (.goto 20, 3) := by decide +kernel
theorem dX6_moodBehind_12 : decode cX6_moodBehind 12 = .ok (.aload_n 0, 1) := by decide +kernel
theorem dX6_moodBehind_13 : decode cX6_moodBehind 13 = .ok (.iload_n 2, 1) := by decide +kernel
theorem dX6_moodBehind_14 : decode cX6_moodBehind 14 = .ok (.invokevirtual 178, 3) := by decide +kernel
theorem dX6_moodBehind_17 : decode cX6_moodBehind 17 = .ok (.ifCond .eq 9, 3) := by decide +kernel
theorem dX6_moodBehind_20 : decode cX6_moodBehind 20 = .ok (.iload_n 1, 1) := by decide +kernel
theorem dX6_moodBehind_21 : decode cX6_moodBehind 21 = .ok (.iconst 1, 1) := by decide +kernel
theorem dX6_moodBehind_22 : decode cX6_moodBehind 22 = .ok (.iadd, 1) := by decide +kernel
theorem dX6_moodBehind_23 : decode cX6_moodBehind 23 = .ok (.goto 6, 3) := by decide +kernel
theorem dX6_moodBehind_26 : decode cX6_moodBehind 26 = .ok (.iload_n 1, 1) := by decide +kernel
theorem dX6_moodBehind_27 : decode cX6_moodBehind 27 = .ok (.iconst 1, 1) := by decide +kernel
theorem dX6_moodBehind_28 : decode cX6_moodBehind 28 = .ok (.isub, 1) := by decide +kernel
theorem dX6_moodBehind_29 : decode cX6_moodBehind 29 = .ok (.istore_n 3, 1) := by decide +kernel
theorem dX6_moodBehind_30 : decode cX6_moodBehind 30 = .ok (.iload_n 3, 1) := by decide +kernel
theorem dX6_moodBehind_31 : decode cX6_moodBehind 31 = .ok (.bipush 9, 2) := by decide +kernel
theorem dX6_moodBehind_33 : decode cX6_moodBehind 33 = .ok (.if_icmp .le 8, 3) := by decide +kernel
theorem dX6_moodBehind_36 : decode cX6_moodBehind 36 = .ok (.bipush 9, 2) := by decide +kernel
theorem dX6_moodBehind_38 : decode cX6_moodBehind 38 = .ok (.goto 12, 3) := by decide +kernel
theorem dX6_moodBehind_41 : decode cX6_moodBehind 41 = .ok (.iload_n 3, 1) := by decide +kernel
theorem dX6_moodBehind_42 : decode cX6_moodBehind 42 = .ok (.ifCond .ge 7, 3) := by decide +kernel
theorem dX6_moodBehind_45 : decode cX6_moodBehind 45 = .ok (.iconst 0, 1) := by decide +kernel
theorem dX6_moodBehind_46 : decode cX6_moodBehind 46 = .ok (.goto 4, 3) := by decide +kernel
theorem dX6_moodBehind_49 : decode cX6_moodBehind 49 = .ok (.iload_n 3, 1) := by decide +kernel
theorem dX6_moodBehind_50 : decode cX6_moodBehind 50 = .ok (.ireturn, 1) := by decide +kernel
set_option maxRecDepth 20000 in
theorem ggX6_cheapestBy_X6_groups : GoodIn wsX6_cheapestBy wsX6_groups := goodIn_r _ [8, 2, 32, 33, 34, 35, 36, 37, 38, 39, 40, 41, 42, 43, 44, 45, 46, 47, 48, 49, 50, 51] (by decide +kernel) (by decide +kernel)
set_option maxRecDepth 20000 in
theorem gX6_cheapestBy_X6_groups : GoodIn wsX6_cheapestBy (wsV RX6 181 RX6 yX6_groups wsX6_groups) := goodIn_app (goodIn_of _ (by decide +kernel)) ggX6_cheapestBy_X6_groups
set_option maxRecDepth 20000 in
theorem ggX6_cheapestBy_X6_isBolt : GoodIn wsX6_cheapestBy wsX6_isBolt := goodIn_r _ [12, 2, 13, 14, 7, 15, 32, 33, 34, 35, 36, 37, 38, 39, 40, 41, 42, 43, 44, 45, 46, 47, 48, 49, 50, 51] (by decide +kernel) (by decide +kernel)
set_option maxRecDepth 20000 in
theorem gX6_cheapestBy_X6_isBolt : GoodIn wsX6_cheapestBy (wsV RX6 93 RX6 yX6_isBolt wsX6_isBolt) := goodIn_app (goodIn_of _ (by decide +kernel)) ggX6_cheapestBy_X6_isBolt
set_option maxRecDepth 20000 in
theorem ggX6_cheapestBy_X6_moodBehind : GoodIn wsX6_cheapestBy wsX6_moodBehind := goodIn_r _ [19, 20, 21, 22, 7, 23, 2, 24, 25, 26, 27, 28, 29, 30, 31, 32, 33, 34, 35, 36, 37, 38, 39, 40, 41, 42, 43, 44, 45, 46, 47, 48, 49, 50, 51] (by decide +kernel) (by decide +kernel)
set_option maxRecDepth 20000 in
theorem gX6_cheapestBy_X6_moodBehind : GoodIn wsX6_cheapestBy (wsV RX6 184 RX6 yX6_moodBehind wsX6_moodBehind) := goodIn_app (goodIn_of _ (by decide +kernel)) ggX6_cheapestBy_X6_moodBehind
set_option maxRecDepth 20000 in
theorem ggX6_cheapestBy_X6_ofBolt : GoodIn wsX6_cheapestBy wsX6_ofBolt := goodIn_r _ [27, 2, 32, 33, 34, 35, 36, 37, 38, 39, 40, 41, 42, 43, 44, 45, 46, 47, 48, 49, 50, 51] (by decide +kernel) (by decide +kernel)
set_option maxRecDepth 20000 in
theorem gX6_cheapestBy_X6_ofBolt : GoodIn wsX6_cheapestBy (wsV RX6 86 RX6 yX6_ofBolt wsX6_ofBolt) := goodIn_app (goodIn_of _ (by decide +kernel)) ggX6_cheapestBy_X6_ofBolt
theorem dX6_cheapestBy_0 : decode cX6_cheapestBy 0 = .ok (.aload_n 0, 1) := by decide +kernel
theorem dX6_cheapestBy_1 : decode cX6_cheapestBy 1 = .ok (.iload_n 1, 1) := by decide +kernel
theorem dX6_cheapestBy_2 : decode cX6_cheapestBy 2 = .ok (.invokevirtual 181, 3) := by decide +kernel
theorem dX6_cheapestBy_5 : decode cX6_cheapestBy 5 = .ok (.istore_n 2, 1) := by decide +kernel
theorem dX6_cheapestBy_6 : decode cX6_cheapestBy 6 = .ok (.iconst 1, 1) := by decide +kernel
theorem dX6_cheapestBy_7 : decode cX6_cheapestBy 7 = .ok (.istore_n 3, 1) := by decide +kernel
theorem dX6_cheapestBy_8 : decode cX6_cheapestBy 8 = .ok (.iconst 0, 1) := by decide +kernel
theorem dX6_cheapestBy_9 : decode cX6_cheapestBy 9 = .ok (.istore 4, 2) := by decide +kernel
theorem dX6_cheapestBy_11 : decode cX6_cheapestBy 11 = .ok (.iload 4, 2) := by decide +kernel
theorem dX6_cheapestBy_13 : decode cX6_cheapestBy 13 = .ok (.iload_n 2, 1) := by decide +kernel
theorem dX6_cheapestBy_14 : decode cX6_cheapestBy 14 = .ok (.if_icmp .ge 15, 3) := by decide +kernel
theorem dX6_cheapestBy_17 : decode cX6_cheapestBy 17 = .ok (.iload_n 3, 1) := by decide +kernel
theorem dX6_cheapestBy_18 : decode cX6_cheapestBy 18 = .ok (.iload_n 1, 1) := by decide +kernel
theorem dX6_cheapestBy_19 : decode cX6_cheapestBy 19 = .ok (.iconst 1, 1) := by decide +kernel
theorem dX6_cheapestBy_20 : decode cX6_cheapestBy 20 = .ok (.iadd, 1) := by decide +kernel
theorem dX6_cheapestBy_21 : decode cX6_cheapestBy 21 = .ok (.imul, 1) := by decide +kernel
theorem dX6_cheapestBy_22 : decode cX6_cheapestBy 22 = .ok (.istore_n 3, 1) := by decide +kernel
theorem dX6_cheapestBy_23 : decode cX6_cheapestBy 23 = .ok (.iinc 4 1, 3) := by decide +kernel
theorem dX6_cheapestBy_26 : decode cX6_cheapestBy 26 = .ok (.goto (-15), 3) := by decide +kernel
theorem dX6_cheapestBy_29 : decode cX6_cheapestBy 29 = .ok (.iconst (-1), 1) := by decide +kernel
theorem dX6_cheapestBy_30 : decode cX6_cheapestBy 30 = .ok (.istore 4, 2) := by decide +kernel
theorem dX6_cheapestBy_32 : decode cX6_cheapestBy 32 = .ok (.iconst 0, 1) := by decide +kernel
theorem dX6_cheapestBy_33 : decode cX6_cheapestBy 33 = .ok (.istore 5, 2) := by decide +kernel
theorem dX6_cheapestBy_35 : decode cX6_cheapestBy 35 = .ok (.iload 5, 2) := by decide +kernel
theorem dX6_cheapestBy_37 : decode cX6_cheapestBy 37 = .ok (.iload_n 3, 1) := by decide +kernel
theorem dX6_cheapestBy_38 : decode cX6_cheapestBy 38 = .ok (.if_icmp .ge 248, 3) := by decide +kernel
theorem dX6_cheapestBy_41 : decode cX6_cheapestBy 41 = .ok (.iload 5, 2) := by decide +kernel
theorem dX6_cheapestBy_43 : decode cX6_cheapestBy 43 = .ok (.istore 6, 2) := by decide +kernel
theorem dX6_cheapestBy_45 : decode cX6_cheapestBy 45 = .ok (.iconst 1, 1) := by decide +kernel
theorem dX6_cheapestBy_46 : decode cX6_cheapestBy 46 = .ok (.istore 7, 2) := by decide +kernel
theorem dX6_cheapestBy_48 : decode cX6_cheapestBy 48 = .ok (.iload_n 2, 1) := by decide +kernel
theorem dX6_cheapestBy_49 : decode cX6_cheapestBy 49 = .ok (.iconst 1, 1) := by decide +kernel
theorem dX6_cheapestBy_50 : decode cX6_cheapestBy 50 = .ok (.isub, 1) := by decide +kernel
theorem dX6_cheapestBy_51 : decode cX6_cheapestBy 51 = .ok (.istore 8, 2) := by decide +kernel
theorem dX6_cheapestBy_53 : decode cX6_cheapestBy 53 = .ok (.iload 8, 2) := by decide +kernel
theorem dX6_cheapestBy_55 : decode cX6_cheapestBy 55 = .ok (.ifCond .lt 82, 3) := by decide +kernel
theorem dX6_cheapestBy_58 : decode cX6_cheapestBy 58 = .ok (.iload 6, 2) := by decide +kernel
theorem dX6_cheapestBy_60 : decode cX6_cheapestBy 60 = .ok (.iload_n 1, 1) := by decide +kernel
theorem dX6_cheapestBy_61 : decode cX6_cheapestBy 61 = .ok (.iconst 1, 1) := by decide +kernel
theorem dX6_cheapestBy_62 : decode cX6_cheapestBy 62 = .ok (.iadd, 1) := by decide +kernel
theorem dX6_cheapestBy_63 : decode cX6_cheapestBy 63 = .ok (.irem, 1) := by decide +kernel
theorem dX6_cheapestBy_64 : decode cX6_cheapestBy 64 = .ok (.istore 9, 2) := by decide +kernel
theorem dX6_cheapestBy_66 : decode cX6_cheapestBy 66 = .ok (.iload 6, 2) := by decide +kernel
theorem dX6_cheapestBy_68 : decode cX6_cheapestBy 68 = .ok (.iload_n 1, 1) := by decide +kernel
theorem dX6_cheapestBy_69 : decode cX6_cheapestBy 69 = .ok (.iconst 1, 1) := by decide +kernel
theorem dX6_cheapestBy_70 : decode cX6_cheapestBy 70 = .ok (.iadd, 1) := by decide +kernel
theorem dX6_cheapestBy_71 : decode cX6_cheapestBy 71 = .ok (.idiv, 1) := by decide +kernel
theorem dX6_cheapestBy_72 : decode cX6_cheapestBy 72 = .ok (.istore 6, 2) := by decide +kernel
theorem dX6_cheapestBy_74 : decode cX6_cheapestBy 74 = .ok (.aload_n 0, 1) := by decide +kernel
theorem dX6_cheapestBy_75 : decode cX6_cheapestBy 75 = .ok (.getfield 35, 3) := by decide +kernel
theorem dX6_cheapestBy_78 : decode cX6_cheapestBy 78 = .ok (.iload 8, 2) := by decide +kernel
theorem dX6_cheapestBy_80 : decode cX6_cheapestBy 80 = .ok (.iload 9, 2) := by decide +kernel
theorem dX6_cheapestBy_82 : decode cX6_cheapestBy 82 = .ok (.ifCond .ne 8, 3) := by decide +kernel
theorem dX6_cheapestBy_85 : decode cX6_cheapestBy 85 = .ok (.bipush 12, 2) := by decide +kernel
theorem dX6_cheapestBy_87 : decode cX6_cheapestBy 87 = .ok (.goto 12, 3) := by decide +kernel
theorem dX6_cheapestBy_90 : decode cX6_cheapestBy 90 = .ok (.iload_n 1, 1) := by decide +kernel
theorem dX6_cheapestBy_91 : decode cX6_cheapestBy 91 = .ok (.iload 8, 2) := by decide +kernel
theorem dX6_cheapestBy_93 : decode cX6_cheapestBy 93 = .ok (.imul, 1) := by decide +kernel
theorem dX6_cheapestBy_94 : decode cX6_cheapestBy 94 = .ok (.iload 9, 2) := by decide +kernel
theorem dX6_cheapestBy_96 : decode cX6_cheapestBy 96 = .ok (.iadd, 1) := by decide +kernel
theorem dX6_cheapestBy_97 : decode cX6_cheapestBy 97 = .ok (.iconst 1, 1) := by decide +kernel
theorem dX6_cheapestBy_98 : decode cX6_cheapestBy 98 = .ok (.isub, 1) := by decide +kernel
theorem dX6_cheapestBy_99 : decode cX6_cheapestBy 99 = .ok (.iastore, 1) := by decide +kernel
theorem dX6_cheapestBy_100 : decode cX6_cheapestBy 100 = .ok (.iload 7, 2) := by decide +kernel
theorem dX6_cheapestBy_102 : decode cX6_cheapestBy 102 = .ok (.ifCond .eq 26, 3) := by decide +kernel
theorem dX6_cheapestBy_105 : decode cX6_cheapestBy 105 = .ok (.iload 9, 2) := by decide +kernel
theorem dX6_cheapestBy_107 : decode cX6_cheapestBy 107 = .ok (.ifCond .eq 17, 3) := by decide +kernel
theorem dX6_cheapestBy_110 : decode cX6_cheapestBy 110 = .ok (.aload_n 0, 1) := by decide +kernel
theorem dX6_cheapestBy_111 : decode cX6_cheapestBy 111 = .ok (.aload_n 0, 1) := by decide +kernel
theorem dX6_cheapestBy_112 : decode cX6_cheapestBy 112 = .ok (.getfield 35, 3) := by decide +kernel
theorem dX6_cheapestBy_115 : decode cX6_cheapestBy 115 = .ok (.iload 8, 2) := by decide +kernel
theorem dX6_cheapestBy_117 : decode cX6_cheapestBy 117 = .ok (.iaload, 1) := by decide +kernel
theorem dX6_cheapestBy_118 : decode cX6_cheapestBy 118 = .ok (.invokevirtual 93, 3) := by decide +kernel
theorem dX6_cheapestBy_121 : decode cX6_cheapestBy 121 = .ok (.ifCond .eq 7, 3) := by decide +kernel
theorem dX6_cheapestBy_124 : decode cX6_cheapestBy 124 = .ok (.iconst 1, 1) := by decide +kernel
theorem dX6_cheapestBy_125 : decode cX6_cheapestBy 125 = .ok (.goto 4, 3) := by decide +kernel
theorem dX6_cheapestBy_128 : decode cX6_cheapestBy 128 = .ok (.iconst 0, 1) := by decide +kernel
theorem dX6_cheapestBy_129 : decode cX6_cheapestBy 129 = .ok (.istore 7, 2) := by decide +kernel
theorem dX6_cheapestBy_131 : decode cX6_cheapestBy 131 = .ok (.iinc 8 (-1), 3) := by decide +kernel
theorem dX6_cheapestBy_134 : decode cX6_cheapestBy 134 = .ok (.goto (-81), 3) := by decide +kernel
theorem dX6_cheapestBy_137 : decode cX6_cheapestBy 137 = .ok (.aload_n 0, 1) := by decide +kernel
theorem dX6_cheapestBy_138 : decode cX6_cheapestBy 138 = .ok (.getfield 7, 3) := by decide +kernel
theorem dX6_cheapestBy_141 : decode cX6_cheapestBy 141 = .ok (.bipush 6, 2) := by decide +kernel
theorem dX6_cheapestBy_143 : decode cX6_cheapestBy 143 = .ok (.iaload, 1) := by decide +kernel
theorem dX6_cheapestBy_144 : decode cX6_cheapestBy 144 = .ok (.istore 8, 2) := by decide +kernel
theorem dX6_cheapestBy_146 : decode cX6_cheapestBy 146 = .ok (.iconst 0, 1) := by decide +kernel
theorem dX6_cheapestBy_147 : decode cX6_cheapestBy 147 = .ok (.istore 9, 2) := by decide +kernel
theorem dX6_cheapestBy_149 : decode cX6_cheapestBy 149 = .ok (.iconst 0, 1) := by decide +kernel
theorem dX6_cheapestBy_150 : decode cX6_cheapestBy 150 = .ok (.istore 10, 2) := by decide +kernel
theorem dX6_cheapestBy_152 : decode cX6_cheapestBy 152 = .ok (.iload 10, 2) := by decide +kernel
theorem dX6_cheapestBy_154 : decode cX6_cheapestBy 154 = .ok (.iload_n 2, 1) := by decide +kernel
theorem dX6_cheapestBy_155 : decode cX6_cheapestBy 155 = .ok (.if_icmp .ge 74, 3) := by decide +kernel
theorem dX6_cheapestBy_158 : decode cX6_cheapestBy 158 = .ok (.iload 7, 2) := by decide +kernel
theorem dX6_cheapestBy_160 : decode cX6_cheapestBy 160 = .ok (.ifCond .eq 69, 3) := by decide +kernel
theorem dX6_cheapestBy_163 : decode cX6_cheapestBy 163 = .ok (.aload_n 0, 1) := by decide +kernel
theorem dX6_cheapestBy_164 : decode cX6_cheapestBy 164 = .ok (.iload 8, 2) := by decide +kernel
theorem dX6_cheapestBy_166 : decode cX6_cheapestBy 166 = .ok (.aload_n 0, 1) := by decide +kernel
theorem dX6_cheapestBy_167 : decode cX6_cheapestBy 167 = .ok (.getfield 35, 3) := by decide +kernel
theorem dX6_cheapestBy_170 : decode cX6_cheapestBy 170 = .ok (.iload 10, 2) := by decide +kernel
theorem dX6_cheapestBy_172 : decode cX6_cheapestBy 172 = .ok (.iaload, 1) := by decide +kernel
theorem dX6_cheapestBy_173 : decode cX6_cheapestBy 173 = .ok (.invokevirtual 184, 3) := by decide +kernel
theorem dX6_cheapestBy_176 : decode cX6_cheapestBy 176 = .ok (.istore 8, 2) := by decide +kernel
theorem dX6_cheapestBy_178 : decode cX6_cheapestBy 178 = .ok (.iload 9, 2) := by decide +kernel
theorem dX6_cheapestBy_180 : decode cX6_cheapestBy 180 = .ok (.aload_n 0, 1) := by decide +kernel
theorem dX6_cheapestBy_181 : decode cX6_cheapestBy 181 = .ok (.getfield 35, 3) := by decide +kernel
theorem dX6_cheapestBy_184 : decode cX6_cheapestBy 184 = .ok (.iload 10, 2) := by decide +kernel
theorem dX6_cheapestBy_186 : decode cX6_cheapestBy 186 = .ok (.iaload, 1) := by decide +kernel
theorem dX6_cheapestBy_187 : decode cX6_cheapestBy 187 = .ok (.bipush 12, 2) := by decide +kernel
theorem dX6_cheapestBy_189 : decode cX6_cheapestBy 189 = .ok (.if_icmp .ne 7, 3) := by decide +kernel
theorem dX6_cheapestBy_192 : decode cX6_cheapestBy 192 = .ok (.iconst 0, 1) := by decide +kernel
theorem dX6_cheapestBy_193 : decode cX6_cheapestBy 193 = .ok (.goto 15, 3) := by decide +kernel
theorem dX6_cheapestBy_196 : decode cX6_cheapestBy 196 = .ok (.aload_n 0, 1) := by decide +kernel
theorem dX6_cheapestBy_197 : decode cX6_cheapestBy 197 = .ok (.aload_n 0, 1) := by decide +kernel
theorem dX6_cheapestBy_198 : decode cX6_cheapestBy 198 = .ok (.getfield 35, 3) := by decide +kernel
theorem dX6_cheapestBy_201 : decode cX6_cheapestBy 201 = .ok (.iload 10, 2) := by decide +kernel
theorem dX6_cheapestBy_203 : decode cX6_cheapestBy 203 = .ok (.iaload, 1) := by decide +kernel
theorem dX6_cheapestBy_204 : decode cX6_cheapestBy 204 = .ok (.iconst 2, 1) := by decide +kernel
theorem dX6_cheapestBy_205 : decode cX6_cheapestBy 205 = .ok (.invokevirtual 86, 3) := by decide +kernel
theorem dX6_cheapestBy_208 : decode cX6_cheapestBy 208 = .ok (.iadd, 1) := by decide +kernel
theorem dX6_cheapestBy_209 : decode cX6_cheapestBy 209 = .ok (.istore 9, 2) := by decide +kernel
theorem dX6_cheapestBy_211 : decode cX6_cheapestBy 211 = .ok (.iload 8, 2) := by decide +kernel
theorem dX6_cheapestBy_213 : decode cX6_cheapestBy 213 = .ok (.ifCond .le 7, 3) := by decide +kernel
theorem dX6_cheapestBy_216 : decode cX6_cheapestBy 216 = .ok (.iconst 1, 1) := by decide +kernel
theorem dX6_cheapestBy_217 : decode cX6_cheapestBy 217 = .ok (.goto 4, 3) := by decide +kernel
theorem dX6_cheapestBy_220 : decode cX6_cheapestBy 220 = .ok (.iconst 0, 1) := by decide +kernel
theorem dX6_cheapestBy_221 : decode cX6_cheapestBy 221 = .ok (.istore 7, 2) := by decide +kernel
theorem dX6_cheapestBy_223 : decode cX6_cheapestBy 223 = .ok (.iinc 10 1, 3) := by decide +kernel
theorem dX6_cheapestBy_226 : decode cX6_cheapestBy 226 = .ok (.goto (-74), 3) := by decide +kernel
theorem dX6_cheapestBy_229 : decode cX6_cheapestBy 229 = .ok (.iload 7, 2) := by decide +kernel
theorem dX6_cheapestBy_231 : decode cX6_cheapestBy 231 = .ok (.ifCond .eq 49, 3) := by decide +kernel
theorem dX6_cheapestBy_234 : decode cX6_cheapestBy 234 = .ok (.iload 4, 2) := by decide +kernel
theorem dX6_cheapestBy_236 : decode cX6_cheapestBy 236 = .ok (.iconst (-1), 1) := by decide +kernel
theorem dX6_cheapestBy_237 : decode cX6_cheapestBy 237 = .ok (.if_icmp .eq 10, 3) := by decide +kernel
theorem dX6_cheapestBy_240 : decode cX6_cheapestBy 240 = .ok (.iload 9, 2) := by decide +kernel
theorem dX6_cheapestBy_242 : decode cX6_cheapestBy 242 = .ok (.iload 4, 2) := by decide +kernel
theorem dX6_cheapestBy_244 : decode cX6_cheapestBy 244 = .ok (.if_icmp .ge 36, 3) := by decide +kernel
theorem dX6_cheapestBy_247 : decode cX6_cheapestBy 247 = .ok (.iload 9, 2) := by decide +kernel
theorem dX6_cheapestBy_249 : decode cX6_cheapestBy 249 = .ok (.istore 4, 2) := by decide +kernel
theorem dX6_cheapestBy_251 : decode cX6_cheapestBy 251 = .ok (.iconst 0, 1) := by decide +kernel
theorem dX6_cheapestBy_252 : decode cX6_cheapestBy 252 = .ok (.istore 10, 2) := by decide +kernel
theorem dX6_cheapestBy_254 : decode cX6_cheapestBy 254 = .ok (.iload 10, 2) := by decide +kernel
theorem dX6_cheapestBy_256 : decode cX6_cheapestBy 256 = .ok (.iload_n 2, 1) := by decide +kernel
theorem dX6_cheapestBy_257 : decode cX6_cheapestBy 257 = .ok (.if_icmp .ge 23, 3) := by decide +kernel
theorem dX6_cheapestBy_260 : decode cX6_cheapestBy 260 = .ok (.aload_n 0, 1) := by decide +kernel
theorem dX6_cheapestBy_261 : decode cX6_cheapestBy 261 = .ok (.getfield 32, 3) := by decide +kernel
theorem dX6_cheapestBy_264 : decode cX6_cheapestBy 264 = .ok (.iload 10, 2) := by decide +kernel
theorem dX6_cheapestBy_266 : decode cX6_cheapestBy 266 = .ok (.aload_n 0, 1) := by decide +kernel
theorem dX6_cheapestBy_267 : decode cX6_cheapestBy 267 = .ok (.getfield 35, 3) := by decide +kernel
theorem dX6_cheapestBy_270 : decode cX6_cheapestBy 270 = .ok (.iload 10, 2) := by decide +kernel
theorem dX6_cheapestBy_272 : decode cX6_cheapestBy 272 = .ok (.iaload, 1) := by decide +kernel
theorem dX6_cheapestBy_273 : decode cX6_cheapestBy 273 = .ok (.iastore, 1) := by decide +kernel
theorem dX6_cheapestBy_274 : decode cX6_cheapestBy 274 = .ok (.iinc 10 1, 3) := by decide +kernel
theorem dX6_cheapestBy_277 : decode cX6_cheapestBy 277 = .ok (.goto (-23), 3) := by decide +kernel
theorem dX6_cheapestBy_280 : decode cX6_cheapestBy 280 = .ok (.iinc 5 1, 3) := by decide +kernel
theorem dX6_cheapestBy_283 : decode cX6_cheapestBy 283 = .ok (.goto (-248), 3) := by decide +kernel
theorem dX6_cheapestBy_286 : decode cX6_cheapestBy 286 = .ok (.iload 4, 2) := by decide +kernel
theorem dX6_cheapestBy_288 : decode cX6_cheapestBy 288 = .ok (.ireturn, 1) := by decide +kernel
set_option maxRecDepth 20000 in
theorem ggX6_cheapest_X6_groups : GoodIn wsX6_cheapest wsX6_groups := goodIn_r _ [8, 2, 43, 44, 45, 46, 47, 48, 49, 50, 51, 52, 53, 54, 55, 56, 57, 58, 59, 60, 61, 62] (by decide +kernel) (by decide +kernel)
set_option maxRecDepth 20000 in
theorem gX6_cheapest_X6_groups : GoodIn wsX6_cheapest (wsV RX6 181 RX6 yX6_groups wsX6_groups) := goodIn_app (goodIn_of _ (by decide +kernel)) ggX6_cheapest_X6_groups
set_option maxRecDepth 20000 in
theorem ggX6_cheapest_X6_in : GoodIn wsX6_cheapest wsX6_in := goodIn_r _ [11] (by decide +kernel) (by decide +kernel)
set_option maxRecDepth 20000 in
theorem gX6_cheapest_X6_in : GoodIn wsX6_cheapest (va_wsS RX6 56 yX6_in wsX6_in) := goodIn_app (goodIn_of _ (by decide +kernel)) ggX6_cheapest_X6_in
set_option maxRecDepth 20000 in
theorem ggX6_cheapest_X6_refuses : GoodIn wsX6_cheapest wsX6_refuses := goodIn_r _ [15, 16, 17, 43, 44, 45, 46, 47, 48, 49, 50, 51, 52, 53, 54, 55, 56, 57, 58, 59, 60, 61, 62] (by decide +kernel) (by decide +kernel)
set_option maxRecDepth 20000 in
theorem gX6_cheapest_X6_refuses : GoodIn wsX6_cheapest (wsV RX6 52 RX6 yX6_refuses wsX6_refuses) := goodIn_app (goodIn_of _ (by decide +kernel)) ggX6_cheapest_X6_refuses
set_option maxRecDepth 20000 in
theorem ggX6_cheapest_X6_cheapestBy : GoodIn wsX6_cheapest wsX6_cheapestBy := goodIn_r _ [21, 22, 2, 3, 4, 5, 6, 7, 8, 23, 24, 25, 26, 9, 10, 11, 27, 28, 29, 30, 31, 32, 33, 34, 35, 36, 37, 38, 39, 40, 41, 42, 43, 44, 45, 46, 47, 48, 49, 50, 51, 52, 53, 54, 55, 56, 57, 58, 59, 60, 61, 62] (by decide +kernel) (by decide +kernel)
set_option maxRecDepth 20000 in
theorem gX6_cheapest_X6_cheapestBy : GoodIn wsX6_cheapest (wsV RX6 189 RX6 yX6_cheapestBy wsX6_cheapestBy) := goodIn_app (goodIn_of _ (by decide +kernel)) ggX6_cheapest_X6_cheapestBy
theorem dX6_cheapest_0 : decode cX6_cheapest 0 = .ok (.iload_n 1, 1) := by decide +kernel
theorem dX6_cheapest_1 : decode cX6_cheapest 1 = .ok (.i2l, 1) := by decide +kernel
theorem dX6_cheapest_2 : decode cX6_cheapest 2 = .ok (.ldc2_w 187, 3) := by decide +kernel
theorem dX6_cheapest_5 : decode cX6_cheapest 5 = .ok (.aload_n 0, 1) := by decide +kernel
theorem dX6_cheapest_6 : decode cX6_cheapest 6 = .ok (.aload_n 0, 1) := by decide +kernel
theorem dX6_cheapest_7 : decode cX6_cheapest 7 = .ok (.getfield 7, 3) := by decide +kernel
theorem dX6_cheapest_10 : decode cX6_cheapest 10 = .ok (.iconst 4, 1) := by decide +kernel
theorem dX6_cheapest_11 : decode cX6_cheapest 11 = .ok (.iaload, 1) := by decide +kernel
theorem dX6_cheapest_12 : decode cX6_cheapest 12 = .ok (.invokevirtual 181, 3) := by decide +kernel
theorem dX6_cheapest_15 : decode cX6_cheapest 15 = .ok (.iconst 1, 1) := by decide +kernel
theorem dX6_cheapest_16 : decode cX6_cheapest 16 = .ok (.isub, 1) := by decide +kernel
theorem dX6_cheapest_17 : decode cX6_cheapest 17 = .ok (.i2l, 1) := by decide +kernel
theorem dX6_cheapest_18 : decode cX6_cheapest 18 = .ok (.invokestatic 56, 3) := by decide +kernel
theorem dX6_cheapest_21 : decode cX6_cheapest 21 = .ok (.ifCond .ne 11, 3) := by decide +kernel
theorem dX6_cheapest_24 : decode cX6_cheapest 24 = .ok (.aload_n 0, 1) := by decide +kernel
theorem dX6_cheapest_25 : decode cX6_cheapest 25 = .ok (.iconst 0, 1) := by decide +kernel
theorem dX6_cheapest_26 : decode cX6_cheapest 26 = .ok (.bipush (-10), 2) := by decide +kernel
theorem dX6_cheapest_28 : decode cX6_cheapest 28 = .ok (.invokevirtual 52, 3) := by decide +kernel
theorem dX6_cheapest_31 : decode cX6_cheapest 31 = .ok (.ireturn, 1) := by decide +kernel
theorem dX6_cheapest_32 : decode cX6_cheapest 32 = .ok (.aload_n 0, 1) := by decide +kernel
theorem dX6_cheapest_33 : decode cX6_cheapest 33 = .ok (.aload_n 0, 1) := by decide +kernel
theorem dX6_cheapest_34 : decode cX6_cheapest 34 = .ok (.getfield 7, 3) := by decide +kernel
theorem dX6_cheapest_37 : decode cX6_cheapest 37 = .ok (.iconst 4, 1) := by decide +kernel
theorem dX6_cheapest_38 : decode cX6_cheapest 38 = .ok (.iaload, 1) := by decide +kernel
theorem dX6_cheapest_39 : decode cX6_cheapest 39 = .ok (.invokevirtual 189, 3) := by decide +kernel
theorem dX6_cheapest_42 : decode cX6_cheapest 42 = .ok (.istore_n 2, 1) := by decide +kernel
theorem dX6_cheapest_43 : decode cX6_cheapest 43 = .ok (.iload_n 2, 1) := by decide +kernel
theorem dX6_cheapest_44 : decode cX6_cheapest 44 = .ok (.iconst (-1), 1) := by decide +kernel
theorem dX6_cheapest_45 : decode cX6_cheapest 45 = .ok (.if_icmp .eq 8, 3) := by decide +kernel
theorem dX6_cheapest_48 : decode cX6_cheapest 48 = .ok (.iload_n 1, 1) := by decide +kernel
theorem dX6_cheapest_49 : decode cX6_cheapest 49 = .ok (.iconst (-1), 1) := by decide +kernel
theorem dX6_cheapest_50 : decode cX6_cheapest 50 = .ok (.if_icmp .ne 7, 3) := by decide +kernel
theorem dX6_cheapest_53 : decode cX6_cheapest 53 = .ok (.iload_n 2, 1) := by decide +kernel
theorem dX6_cheapest_54 : decode cX6_cheapest 54 = .ok (.goto 9, 3) := by decide +kernel
theorem dX6_cheapest_57 : decode cX6_cheapest 57 = .ok (.aload_n 0, 1) := by decide +kernel
theorem dX6_cheapest_58 : decode cX6_cheapest 58 = .ok (.getfield 32, 3) := by decide +kernel
theorem dX6_cheapest_61 : decode cX6_cheapest 61 = .ok (.iload_n 1, 1) := by decide +kernel
theorem dX6_cheapest_62 : decode cX6_cheapest 62 = .ok (.iaload, 1) := by decide +kernel
theorem dX6_cheapest_63 : decode cX6_cheapest 63 = .ok (.ireturn, 1) := by decide +kernel
set_option maxRecDepth 20000 in
theorem ggX6_number_X6_cheapestBy : GoodIn wsX6_number wsX6_cheapestBy := goodIn_r _ [5, 6, 7, 8, 9, 10, 11, 4, 12, 13, 14, 15, 16, 17, 18, 19, 20, 21, 22, 23, 24, 25, 26, 27, 28, 29, 30, 31, 32, 33, 34, 35, 36, 37, 38, 39, 40, 41, 42, 43, 44, 45, 46, 47, 48, 49, 50, 51, 52, 53, 54, 55] (by decide +kernel) (by decide +kernel)
set_option maxRecDepth 20000 in
theorem gX6_number_X6_cheapestBy : GoodIn wsX6_number (wsV RX6 189 RX6 yX6_cheapestBy wsX6_cheapestBy) := goodIn_app (goodIn_of _ (by decide +kernel)) ggX6_number_X6_cheapestBy
theorem dX6_number_0 : decode cX6_number 0 = .ok (.iconst (-1), 1) := by decide +kernel
theorem dX6_number_1 : decode cX6_number 1 = .ok (.istore_n 1, 1) := by decide +kernel
theorem dX6_number_2 : decode cX6_number 2 = .ok (.iconst 0, 1) := by decide +kernel
theorem dX6_number_3 : decode cX6_number 3 = .ok (.istore_n 2, 1) := by decide +kernel
theorem dX6_number_4 : decode cX6_number 4 = .ok (.iconst 2, 1) := by decide +kernel
theorem dX6_number_5 : decode cX6_number 5 = .ok (.istore_n 3, 1) := by decide +kernel
theorem dX6_number_6 : decode cX6_number 6 = .ok (.iload_n 3, 1) := by decide +kernel
theorem dX6_number_7 : decode cX6_number 7 = .ok (.bipush 6, 2) := by decide +kernel
theorem dX6_number_9 : decode cX6_number 9 = .ok (.if_icmp .gt 38, 3) := by decide +kernel
theorem dX6_number_12 : decode cX6_number 12 = .ok (.aload_n 0, 1) := by decide +kernel
theorem dX6_number_13 : decode cX6_number 13 = .ok (.iload_n 3, 1) := by decide +kernel
theorem dX6_number_14 : decode cX6_number 14 = .ok (.invokevirtual 189, 3) := by decide +kernel
theorem dX6_number_17 : decode cX6_number 17 = .ok (.istore 4, 2) := by decide +kernel
theorem dX6_number_19 : decode cX6_number 19 = .ok (.iload 4, 2) := by decide +kernel
theorem dX6_number_21 : decode cX6_number 21 = .ok (.iconst (-1), 1) := by decide +kernel
theorem dX6_number_22 : decode cX6_number 22 = .ok (.if_icmp .eq 19, 3) := by decide +kernel
theorem dX6_number_25 : decode cX6_number 25 = .ok (.iload_n 1, 1) := by decide +kernel
theorem dX6_number_26 : decode cX6_number 26 = .ok (.iconst (-1), 1) := by decide +kernel
theorem dX6_number_27 : decode cX6_number 27 = .ok (.if_icmp .eq 9, 3) := by decide +kernel
theorem dX6_number_30 : decode cX6_number 30 = .ok (.iload 4, 2) := by decide +kernel
theorem dX6_number_32 : decode cX6_number 32 = .ok (.iload_n 2, 1) := by decide +kernel
theorem dX6_number_33 : decode cX6_number 33 = .ok (.if_icmp .ge 8, 3) := by decide +kernel
theorem dX6_number_36 : decode cX6_number 36 = .ok (.iload_n 3, 1) := by decide +kernel
theorem dX6_number_37 : decode cX6_number 37 = .ok (.istore_n 1, 1) := by decide +kernel
theorem dX6_number_38 : decode cX6_number 38 = .ok (.iload 4, 2) := by decide +kernel
theorem dX6_number_40 : decode cX6_number 40 = .ok (.istore_n 2, 1) := by decide +kernel
theorem dX6_number_41 : decode cX6_number 41 = .ok (.iinc 3 1, 3) := by decide +kernel
theorem dX6_number_44 : decode cX6_number 44 = .ok (.goto (-38), 3) := by decide +kernel
theorem dX6_number_47 : decode cX6_number 47 = .ok (.iload_n 1, 1) := by decide +kernel
theorem dX6_number_48 : decode cX6_number 48 = .ok (.ireturn, 1) := by decide +kernel
set_option maxRecDepth 20000 in
theorem ggX6_stands_X6_cheapestBy : GoodIn wsX6_stands wsX6_cheapestBy := goodIn_r _ [8, 9, 1, 3, 10, 11, 12, 7, 13, 14, 15, 16, 17, 18, 19, 20, 21, 22, 23, 24, 25, 26, 27, 28, 29, 30, 31, 32, 33, 34, 35, 36, 56, 57, 58, 59, 60, 61, 62, 63, 64, 65, 66, 67, 68, 69, 70, 71, 72, 73, 74, 75] (by decide +kernel) (by decide +kernel)
set_option maxRecDepth 20000 in
theorem gX6_stands_X6_cheapestBy : GoodIn wsX6_stands (wsV RX6 189 RX6 yX6_cheapestBy wsX6_cheapestBy) := goodIn_app (goodIn_of _ (by decide +kernel)) ggX6_stands_X6_cheapestBy
set_option maxRecDepth 20000 in
theorem ggX6_stands_X6_no : GoodIn wsX6_stands wsX6_no := goodIn_r _ [40, 41, 42, 43, 7, 44, 45, 46, 56, 57, 58, 59, 60, 61, 62, 63, 64, 65, 66, 67, 68, 69, 70, 71, 72, 73, 74, 75] (by decide +kernel) (by decide +kernel)
set_option maxRecDepth 20000 in
theorem gX6_stands_X6_no : GoodIn wsX6_stands (wsV RX6 192 RX6 yX6_no wsX6_no) := goodIn_app (goodIn_of _ (by decide +kernel)) ggX6_stands_X6_no
set_option maxRecDepth 20000 in
theorem ggX6_stands_X6_groups : GoodIn wsX6_stands wsX6_groups := goodIn_r _ [13, 1, 56, 57, 58, 59, 60, 61, 62, 63, 64, 65, 66, 67, 68, 69, 70, 71, 72, 73, 74, 75] (by decide +kernel) (by decide +kernel)
set_option maxRecDepth 20000 in
theorem gX6_stands_X6_groups : GoodIn wsX6_stands (wsV RX6 181 RX6 yX6_groups wsX6_groups) := goodIn_app (goodIn_of _ (by decide +kernel)) ggX6_stands_X6_groups
set_option maxRecDepth 20000 in
theorem ggX6_stands_X6_moodBehind : GoodIn wsX6_stands wsX6_moodBehind := goodIn_r _ [24, 25, 26, 27, 7, 28, 1, 29, 30, 31, 32, 33, 34, 35, 36, 56, 57, 58, 59, 60, 61, 62, 63, 64, 65, 66, 67, 68, 69, 70, 71, 72, 73, 74, 75] (by decide +kernel) (by decide +kernel)
set_option maxRecDepth 20000 in
theorem gX6_stands_X6_moodBehind : GoodIn wsX6_stands (wsV RX6 184 RX6 yX6_moodBehind wsX6_moodBehind) := goodIn_app (goodIn_of _ (by decide +kernel)) ggX6_stands_X6_moodBehind
set_option maxRecDepth 20000 in
theorem ggX6_stands_X6_keeps : GoodIn wsX6_stands wsX6_keeps := goodIn_r _ [50, 51, 52, 53, 54, 7, 55, 56, 57, 58, 59, 60, 61, 62, 63, 64, 65, 66, 67, 68, 69, 70, 71, 72, 73, 74, 75] (by decide +kernel) (by decide +kernel)
set_option maxRecDepth 20000 in
theorem gX6_stands_X6_keeps : GoodIn wsX6_stands (wsV RX6 197 RX6 yX6_keeps wsX6_keeps) := goodIn_app (goodIn_of _ (by decide +kernel)) ggX6_stands_X6_keeps
theorem dX6_stands_0 : decode cX6_stands 0 = .ok (.aload_n 0, 1) := by decide +kernel
theorem dX6_stands_1 : decode cX6_stands 1 = .ok (.aload_n 0, 1) := by decide +kernel
theorem dX6_stands_2 : decode cX6_stands 2 = .ok (.getfield 7, 3) := by decide +kernel
theorem dX6_stands_5 : decode cX6_stands 5 = .ok (.iconst 4, 1) := by decide +kernel
theorem dX6_stands_6 : decode cX6_stands 6 = .ok (.iaload, 1) := by decide +kernel
theorem dX6_stands_7 : decode cX6_stands 7 = .ok (.invokevirtual 189, 3) := by decide +kernel
theorem dX6_stands_10 : decode cX6_stands 10 = .ok (.iconst (-1), 1) := by decide +kernel
theorem dX6_stands_11 : decode cX6_stands 11 = .ok (.if_icmp .ne 8, 3) := by decide +kernel
theorem dX6_stands_14 : decode cX6_stands 14 = .ok (.aload_n 0, 1) := by decide +kernel
theorem dX6_stands_15 : decode cX6_stands 15 = .ok (.invokevirtual 192, 3) := by decide +kernel
theorem dX6_stands_18 : decode cX6_stands 18 = .ok (.ireturn, 1) := by decide +kernel
theorem dX6_stands_19 : decode cX6_stands 19 = .ok (.lconst 1, 1) := by decide +kernel
theorem dX6_stands_20 : decode cX6_stands 20 = .ok (.lstore_n 1, 1) := by decide +kernel
theorem dX6_stands_21 : decode cX6_stands 21 = .ok (.lconst 1, 1) := by decide +kernel
theorem dX6_stands_22 : decode cX6_stands 22 = .ok (.lstore_n 3, 1) := by decide +kernel
theorem dX6_stands_23 : decode cX6_stands 23 = .ok (.aload_n 0, 1) := by decide +kernel
theorem dX6_stands_24 : decode cX6_stands 24 = .ok (.getfield 7, 3) := by decide +kernel
theorem dX6_stands_27 : decode cX6_stands 27 = .ok (.bipush 6, 2) := by decide +kernel
theorem dX6_stands_29 : decode cX6_stands 29 = .ok (.iaload, 1) := by decide +kernel
theorem dX6_stands_30 : decode cX6_stands 30 = .ok (.istore 5, 2) := by decide +kernel
theorem dX6_stands_32 : decode cX6_stands 32 = .ok (.iconst 0, 1) := by decide +kernel
theorem dX6_stands_33 : decode cX6_stands 33 = .ok (.istore 6, 2) := by decide +kernel
theorem dX6_stands_35 : decode cX6_stands 35 = .ok (.iload 6, 2) := by decide +kernel
theorem dX6_stands_37 : decode cX6_stands 37 = .ok (.aload_n 0, 1) := by decide +kernel
theorem dX6_stands_38 : decode cX6_stands 38 = .ok (.aload_n 0, 1) := by decide +kernel
theorem dX6_stands_39 : decode cX6_stands 39 = .ok (.getfield 7, 3) := by decide +kernel
theorem dX6_stands_42 : decode cX6_stands 42 = .ok (.iconst 4, 1) := by decide +kernel
theorem dX6_stands_43 : decode cX6_stands 43 = .ok (.iaload, 1) := by decide +kernel
theorem dX6_stands_44 : decode cX6_stands 44 = .ok (.invokevirtual 181, 3) := by decide +kernel
theorem dX6_stands_47 : decode cX6_stands 47 = .ok (.if_icmp .ge 39, 3) := by decide +kernel
theorem dX6_stands_50 : decode cX6_stands 50 = .ok (.lload_n 1, 1) := by decide +kernel
theorem dX6_stands_51 : decode cX6_stands 51 = .ok (.bipush 10, 2) := by decide +kernel
theorem dX6_stands_53 : decode cX6_stands 53 = .ok (.iload 5, 2) := by decide +kernel
theorem dX6_stands_55 : decode cX6_stands 55 = .ok (.iadd, 1) := by decide +kernel
theorem dX6_stands_56 : decode cX6_stands 56 = .ok (.i2l, 1) := by decide +kernel
theorem dX6_stands_57 : decode cX6_stands 57 = .ok (.lmul, 1) := by decide +kernel
theorem dX6_stands_58 : decode cX6_stands 58 = .ok (.lstore_n 1, 1) := by decide +kernel
theorem dX6_stands_59 : decode cX6_stands 59 = .ok (.lload_n 3, 1) := by decide +kernel
theorem dX6_stands_60 : decode cX6_stands 60 = .ok (.ldc2_w 195, 3) := by decide +kernel
theorem dX6_stands_63 : decode cX6_stands 63 = .ok (.lmul, 1) := by decide +kernel
theorem dX6_stands_64 : decode cX6_stands 64 = .ok (.lstore_n 3, 1) := by decide +kernel
theorem dX6_stands_65 : decode cX6_stands 65 = .ok (.aload_n 0, 1) := by decide +kernel
theorem dX6_stands_66 : decode cX6_stands 66 = .ok (.iload 5, 2) := by decide +kernel
theorem dX6_stands_68 : decode cX6_stands 68 = .ok (.aload_n 0, 1) := by decide +kernel
theorem dX6_stands_69 : decode cX6_stands 69 = .ok (.getfield 32, 3) := by decide +kernel
theorem dX6_stands_72 : decode cX6_stands 72 = .ok (.iload 6, 2) := by decide +kernel
theorem dX6_stands_74 : decode cX6_stands 74 = .ok (.iaload, 1) := by decide +kernel
theorem dX6_stands_75 : decode cX6_stands 75 = .ok (.invokevirtual 184, 3) := by decide +kernel
theorem dX6_stands_78 : decode cX6_stands 78 = .ok (.istore 5, 2) := by decide +kernel
theorem dX6_stands_80 : decode cX6_stands 80 = .ok (.iinc 6 1, 3) := by decide +kernel
theorem dX6_stands_83 : decode cX6_stands 83 = .ok (.goto (-48), 3) := by decide +kernel
theorem dX6_stands_86 : decode cX6_stands 86 = .ok (.aload_n 0, 1) := by decide +kernel
theorem dX6_stands_87 : decode cX6_stands 87 = .ok (.lload_n 1, 1) := by decide +kernel
theorem dX6_stands_88 : decode cX6_stands 88 = .ok (.lload_n 3, 1) := by decide +kernel
theorem dX6_stands_89 : decode cX6_stands 89 = .ok (.invokevirtual 197, 3) := by decide +kernel
theorem dX6_stands_92 : decode cX6_stands 92 = .ok (.ireturn, 1) := by decide +kernel
theorem dX6_moodNow_0 : decode cX6_moodNow 0 = .ok (.aload_n 0, 1) := by decide +kernel
theorem dX6_moodNow_1 : decode cX6_moodNow 1 = .ok (.getfield 7, 3) := by decide +kernel
theorem dX6_moodNow_4 : decode cX6_moodNow 4 = .ok (.bipush 70, 2) := by decide +kernel
theorem dX6_moodNow_6 : decode cX6_moodNow 6 = .ok (.aload_n 0, 1) := by decide +kernel
theorem dX6_moodNow_7 : decode cX6_moodNow 7 = .ok (.getfield 7, 3) := by decide +kernel
theorem dX6_moodNow_10 : decode cX6_moodNow 10 = .ok (.bipush 7, 2) := by decide +kernel
theorem dX6_moodNow_12 : decode cX6_moodNow 12 = .ok (.iaload, 1) := by decide +kernel
theorem dX6_moodNow_13 : decode cX6_moodNow 13 = .ok (.iadd, 1) := by decide +kernel
theorem dX6_moodNow_14 : decode cX6_moodNow 14 = .ok (.iaload, 1) := by decide +kernel
theorem dX6_moodNow_15 : decode cX6_moodNow 15 = .ok (.ireturn, 1) := by decide +kernel
set_option maxRecDepth 20000 in
theorem ggX6_isNext_X6_moodNow : GoodIn wsX6_isNext wsX6_moodNow := goodIn_r _ [6, 1, 11, 12, 13, 14, 15, 16, 17, 18, 19, 20, 21, 22, 23, 24, 25, 26, 27, 28, 29, 30] (by decide +kernel) (by decide +kernel)
set_option maxRecDepth 20000 in
theorem gX6_isNext_X6_moodNow : GoodIn wsX6_isNext (wsV RX6 201 RX6 yX6_moodNow wsX6_moodNow) := goodIn_app (goodIn_of _ (by decide +kernel)) ggX6_isNext_X6_moodNow
set_option maxRecDepth 20000 in
theorem ggX6_isNext_X6_groups : GoodIn wsX6_isNext wsX6_groups := goodIn_r _ [10, 1, 11, 12, 13, 14, 15, 16, 17, 18, 19, 20, 21, 22, 23, 24, 25, 26, 27, 28, 29, 30] (by decide +kernel) (by decide +kernel)
set_option maxRecDepth 20000 in
theorem gX6_isNext_X6_groups : GoodIn wsX6_isNext (wsV RX6 181 RX6 yX6_groups wsX6_groups) := goodIn_app (goodIn_of _ (by decide +kernel)) ggX6_isNext_X6_groups
theorem dX6_isNext_0 : decode cX6_isNext 0 = .ok (.aload_n 0, 1) := by decide +kernel
theorem dX6_isNext_1 : decode cX6_isNext 1 = .ok (.invokevirtual 201, 3) := by decide +kernel
theorem dX6_isNext_4 : decode cX6_isNext 4 = .ok (.ifCond .le 27, 3) := by decide +kernel
theorem dX6_isNext_7 : decode cX6_isNext 7 = .ok (.aload_n 0, 1) := by decide +kernel
theorem dX6_isNext_8 : decode cX6_isNext 8 = .ok (.getfield 7, 3) := by decide +kernel
theorem dX6_isNext_11 : decode cX6_isNext 11 = .ok (.bipush 7, 2) := by decide +kernel
theorem dX6_isNext_13 : decode cX6_isNext 13 = .ok (.iaload, 1) := by decide +kernel
theorem dX6_isNext_14 : decode cX6_isNext 14 = .ok (.aload_n 0, 1) := by decide +kernel
theorem dX6_isNext_15 : decode cX6_isNext 15 = .ok (.aload_n 0, 1) := by decide +kernel
theorem dX6_isNext_16 : decode cX6_isNext 16 = .ok (.getfield 7, 3) := by decide +kernel
theorem dX6_isNext_19 : decode cX6_isNext 19 = .ok (.iconst 4, 1) := by decide +kernel
theorem dX6_isNext_20 : decode cX6_isNext 20 = .ok (.iaload, 1) := by decide +kernel
theorem dX6_isNext_21 : decode cX6_isNext 21 = .ok (.invokevirtual 181, 3) := by decide +kernel
theorem dX6_isNext_24 : decode cX6_isNext 24 = .ok (.if_icmp .ge 7, 3) := by decide +kernel
theorem dX6_isNext_27 : decode cX6_isNext 27 = .ok (.iconst 1, 1) := by decide +kernel
theorem dX6_isNext_28 : decode cX6_isNext 28 = .ok (.goto 4, 3) := by decide +kernel
theorem dX6_isNext_31 : decode cX6_isNext 31 = .ok (.iconst 0, 1) := by decide +kernel
theorem dX6_isNext_32 : decode cX6_isNext 32 = .ok (.ireturn, 1) := by decide +kernel
set_option maxRecDepth 20000 in
theorem ggX6_give_X6_isBolt : GoodIn wsX6_give wsX6_isBolt := goodIn_r _ [6, 1, 7, 8, 5, 9, 52, 53, 54, 55, 56, 57, 58, 59, 60, 61, 62, 63, 64, 65, 66, 67, 68, 69, 70, 71] (by decide +kernel) (by decide +kernel)
set_option maxRecDepth 20000 in
theorem gX6_give_X6_isBolt : GoodIn wsX6_give (wsV RX6 93 RX6 yX6_isBolt wsX6_isBolt) := goodIn_app (goodIn_of _ (by decide +kernel)) ggX6_give_X6_isBolt
set_option maxRecDepth 20000 in
theorem ggX6_give_X6_isNext : GoodIn wsX6_give wsX6_isNext := goodIn_r _ [13, 1, 14, 15, 16, 5, 17, 18, 19, 20, 21, 52, 53, 54, 55, 56, 57, 58, 59, 60, 61, 62, 63, 64, 65, 66, 67, 68, 69, 70, 71] (by decide +kernel) (by decide +kernel)
set_option maxRecDepth 20000 in
theorem gX6_give_X6_isNext : GoodIn wsX6_give (wsV RX6 204 RX6 yX6_isNext wsX6_isNext) := goodIn_app (goodIn_of _ (by decide +kernel)) ggX6_give_X6_isNext
set_option maxRecDepth 20000 in
theorem ggX6_give_X6_bad : GoodIn wsX6_give wsX6_bad := goodIn_r _ [25, 26, 27, 28, 5, 29, 30, 31, 52, 53, 54, 55, 56, 57, 58, 59, 60, 61, 62, 63, 64, 65, 66, 67, 68, 69, 70, 71] (by decide +kernel) (by decide +kernel)
set_option maxRecDepth 20000 in
theorem gX6_give_X6_bad : GoodIn wsX6_give (wsV RX6 71 RX6 yX6_bad wsX6_bad) := goodIn_app (goodIn_of _ (by decide +kernel)) ggX6_give_X6_bad
set_option maxRecDepth 20000 in
theorem ggX6_give_X6_no : GoodIn wsX6_give wsX6_no := goodIn_r _ [35, 26, 27, 28, 5, 29, 30, 31, 52, 53, 54, 55, 56, 57, 58, 59, 60, 61, 62, 63, 64, 65, 66, 67, 68, 69, 70, 71] (by decide +kernel) (by decide +kernel)
set_option maxRecDepth 20000 in
theorem gX6_give_X6_no : GoodIn wsX6_give (wsV RX6 192 RX6 yX6_no wsX6_no) := goodIn_app (goodIn_of _ (by decide +kernel)) ggX6_give_X6_no
set_option maxRecDepth 20000 in
theorem ggX6_give_X6_moodNow : GoodIn wsX6_give wsX6_moodNow := goodIn_r _ [17, 1, 52, 53, 54, 55, 56, 57, 58, 59, 60, 61, 62, 63, 64, 65, 66, 67, 68, 69, 70, 71] (by decide +kernel) (by decide +kernel)
set_option maxRecDepth 20000 in
theorem gX6_give_X6_moodNow : GoodIn wsX6_give (wsV RX6 201 RX6 yX6_moodNow wsX6_moodNow) := goodIn_app (goodIn_of _ (by decide +kernel)) ggX6_give_X6_moodNow
set_option maxRecDepth 20000 in
theorem ggX6_give_X6_moodBehind : GoodIn wsX6_give wsX6_moodBehind := goodIn_r _ [39, 40, 41, 42, 5, 43, 1, 44, 45, 46, 47, 48, 49, 50, 51, 52, 53, 54, 55, 56, 57, 58, 59, 60, 61, 62, 63, 64, 65, 66, 67, 68, 69, 70, 71] (by decide +kernel) (by decide +kernel)
set_option maxRecDepth 20000 in
theorem gX6_give_X6_moodBehind : GoodIn wsX6_give (wsV RX6 184 RX6 yX6_moodBehind wsX6_moodBehind) := goodIn_app (goodIn_of _ (by decide +kernel)) ggX6_give_X6_moodBehind
theorem dX6_give_0 : decode cX6_give 0 = .ok (.iload_n 1, 1) := by decide +kernel
theorem dX6_give_1 : decode cX6_give 1 = .ok (.iconst (-1), 1) := by decide +kernel
theorem dX6_give_2 : decode cX6_give 2 = .ok (.if_icmp .eq 11, 3) := by decide +kernel
theorem dX6_give_5 : decode cX6_give 5 = .ok (.aload_n 0, 1) := by decide +kernel
theorem dX6_give_6 : decode cX6_give 6 = .ok (.iload_n 1, 1) := by decide +kernel
theorem dX6_give_7 : decode cX6_give 7 = .ok (.invokevirtual 93, 3) := by decide +kernel
theorem dX6_give_10 : decode cX6_give 10 = .ok (.ifCond .eq 33, 3) := by decide +kernel
theorem dX6_give_13 : decode cX6_give 13 = .ok (.aload_n 0, 1) := by decide +kernel
theorem dX6_give_14 : decode cX6_give 14 = .ok (.invokevirtual 204, 3) := by decide +kernel
theorem dX6_give_17 : decode cX6_give 17 = .ok (.ifCond .eq 31, 3) := by decide +kernel
theorem dX6_give_20 : decode cX6_give 20 = .ok (.iload_n 1, 1) := by decide +kernel
theorem dX6_give_21 : decode cX6_give 21 = .ok (.iconst (-1), 1) := by decide +kernel
theorem dX6_give_22 : decode cX6_give 22 = .ok (.if_icmp .eq 26, 3) := by decide +kernel
theorem dX6_give_25 : decode cX6_give 25 = .ok (.iload_n 1, 1) := by decide +kernel
theorem dX6_give_26 : decode cX6_give 26 = .ok (.aload_n 0, 1) := by decide +kernel
theorem dX6_give_27 : decode cX6_give 27 = .ok (.getfield 7, 3) := by decide +kernel
theorem dX6_give_30 : decode cX6_give 30 = .ok (.iconst 4, 1) := by decide +kernel
theorem dX6_give_31 : decode cX6_give 31 = .ok (.iaload, 1) := by decide +kernel
theorem dX6_give_32 : decode cX6_give 32 = .ok (.idiv, 1) := by decide +kernel
theorem dX6_give_33 : decode cX6_give 33 = .ok (.aload_n 0, 1) := by decide +kernel
theorem dX6_give_34 : decode cX6_give 34 = .ok (.getfield 7, 3) := by decide +kernel
theorem dX6_give_37 : decode cX6_give 37 = .ok (.bipush 7, 2) := by decide +kernel
theorem dX6_give_39 : decode cX6_give 39 = .ok (.iaload, 1) := by decide +kernel
theorem dX6_give_40 : decode cX6_give 40 = .ok (.if_icmp .eq 8, 3) := by decide +kernel
theorem dX6_give_43 : decode cX6_give 43 = .ok (.aload_n 0, 1) := by decide +kernel
theorem dX6_give_44 : decode cX6_give 44 = .ok (.invokevirtual 71, 3) := by decide +kernel
theorem dX6_give_47 : decode cX6_give 47 = .ok (.ireturn, 1) := by decide +kernel
theorem dX6_give_48 : decode cX6_give 48 = .ok (.aload_n 0, 1) := by decide +kernel
theorem dX6_give_49 : decode cX6_give 49 = .ok (.invokevirtual 204, 3) := by decide +kernel
theorem dX6_give_52 : decode cX6_give 52 = .ok (.ifCond .ne 8, 3) := by decide +kernel
theorem dX6_give_55 : decode cX6_give 55 = .ok (.aload_n 0, 1) := by decide +kernel
theorem dX6_give_56 : decode cX6_give 56 = .ok (.invokevirtual 192, 3) := by decide +kernel
theorem dX6_give_59 : decode cX6_give 59 = .ok (.ireturn, 1) := by decide +kernel
theorem dX6_give_60 : decode cX6_give 60 = .ok (.iload_n 1, 1) := by decide +kernel
theorem dX6_give_61 : decode cX6_give 61 = .ok (.iconst (-1), 1) := by decide +kernel
theorem dX6_give_62 : decode cX6_give 62 = .ok (.if_icmp .ne 8, 3) := by decide +kernel
theorem dX6_give_65 : decode cX6_give 65 = .ok (.bipush 12, 2) := by decide +kernel
theorem dX6_give_67 : decode cX6_give 67 = .ok (.goto 4, 3) := by decide +kernel
theorem dX6_give_70 : decode cX6_give 70 = .ok (.iload_n 1, 1) := by decide +kernel
theorem dX6_give_71 : decode cX6_give 71 = .ok (.istore_n 2, 1) := by decide +kernel
theorem dX6_give_72 : decode cX6_give 72 = .ok (.aload_n 0, 1) := by decide +kernel
theorem dX6_give_73 : decode cX6_give 73 = .ok (.aload_n 0, 1) := by decide +kernel
theorem dX6_give_74 : decode cX6_give 74 = .ok (.invokevirtual 201, 3) := by decide +kernel
theorem dX6_give_77 : decode cX6_give 77 = .ok (.iload_n 2, 1) := by decide +kernel
theorem dX6_give_78 : decode cX6_give 78 = .ok (.invokevirtual 184, 3) := by decide +kernel
theorem dX6_give_81 : decode cX6_give 81 = .ok (.istore_n 3, 1) := by decide +kernel
theorem dX6_give_82 : decode cX6_give 82 = .ok (.aload_n 0, 1) := by decide +kernel
theorem dX6_give_83 : decode cX6_give 83 = .ok (.getfield 7, 3) := by decide +kernel
theorem dX6_give_86 : decode cX6_give 86 = .ok (.bipush 64, 2) := by decide +kernel
theorem dX6_give_88 : decode cX6_give 88 = .ok (.aload_n 0, 1) := by decide +kernel
theorem dX6_give_89 : decode cX6_give 89 = .ok (.getfield 7, 3) := by decide +kernel
theorem dX6_give_92 : decode cX6_give 92 = .ok (.bipush 7, 2) := by decide +kernel
theorem dX6_give_94 : decode cX6_give 94 = .ok (.iaload, 1) := by decide +kernel
theorem dX6_give_95 : decode cX6_give 95 = .ok (.iadd, 1) := by decide +kernel
theorem dX6_give_96 : decode cX6_give 96 = .ok (.iload_n 2, 1) := by decide +kernel
theorem dX6_give_97 : decode cX6_give 97 = .ok (.iastore, 1) := by decide +kernel
theorem dX6_give_98 : decode cX6_give 98 = .ok (.aload_n 0, 1) := by decide +kernel
theorem dX6_give_99 : decode cX6_give 99 = .ok (.getfield 7, 3) := by decide +kernel
theorem dX6_give_102 : decode cX6_give 102 = .ok (.bipush 7, 2) := by decide +kernel
theorem dX6_give_104 : decode cX6_give 104 = .ok (.dup2, 1) := by decide +kernel
theorem dX6_give_105 : decode cX6_give 105 = .ok (.iaload, 1) := by decide +kernel
theorem dX6_give_106 : decode cX6_give 106 = .ok (.iconst 1, 1) := by decide +kernel
theorem dX6_give_107 : decode cX6_give 107 = .ok (.iadd, 1) := by decide +kernel
theorem dX6_give_108 : decode cX6_give 108 = .ok (.iastore, 1) := by decide +kernel
theorem dX6_give_109 : decode cX6_give 109 = .ok (.aload_n 0, 1) := by decide +kernel
theorem dX6_give_110 : decode cX6_give 110 = .ok (.getfield 7, 3) := by decide +kernel
theorem dX6_give_113 : decode cX6_give 113 = .ok (.bipush 70, 2) := by decide +kernel
theorem dX6_give_115 : decode cX6_give 115 = .ok (.aload_n 0, 1) := by decide +kernel
theorem dX6_give_116 : decode cX6_give 116 = .ok (.getfield 7, 3) := by decide +kernel
theorem dX6_give_119 : decode cX6_give 119 = .ok (.bipush 7, 2) := by decide +kernel
theorem dX6_give_121 : decode cX6_give 121 = .ok (.iaload, 1) := by decide +kernel
theorem dX6_give_122 : decode cX6_give 122 = .ok (.iadd, 1) := by decide +kernel
theorem dX6_give_123 : decode cX6_give 123 = .ok (.iload_n 3, 1) := by decide +kernel
theorem dX6_give_124 : decode cX6_give 124 = .ok (.iastore, 1) := by decide +kernel
theorem dX6_give_125 : decode cX6_give 125 = .ok (.iload_n 3, 1) := by decide +kernel
theorem dX6_give_126 : decode cX6_give 126 = .ok (.ireturn, 1) := by decide +kernel
set_option maxRecDepth 20000 in
theorem ggX6_undo_X6_no : GoodIn wsX6_undo wsX6_no := goodIn_r _ [6, 7, 8, 9, 5, 10, 11, 12, 13, 14, 15, 16, 17, 18, 19, 20, 21, 22, 23, 24, 25, 26, 27, 28, 29, 30, 31, 32] (by decide +kernel) (by decide +kernel)
set_option maxRecDepth 20000 in
theorem gX6_undo_X6_no : GoodIn wsX6_undo (wsV RX6 192 RX6 yX6_no wsX6_no) := goodIn_app (goodIn_of _ (by decide +kernel)) ggX6_undo_X6_no
theorem dX6_undo_0 : decode cX6_undo 0 = .ok (.aload_n 0, 1) := by decide +kernel
theorem dX6_undo_1 : decode cX6_undo 1 = .ok (.getfield 7, 3) := by decide +kernel
theorem dX6_undo_4 : decode cX6_undo 4 = .ok (.bipush 7, 2) := by decide +kernel
theorem dX6_undo_6 : decode cX6_undo 6 = .ok (.iaload, 1) := by decide +kernel
theorem dX6_undo_7 : decode cX6_undo 7 = .ok (.ifCond .ne 8, 3) := by decide +kernel
theorem dX6_undo_10 : decode cX6_undo 10 = .ok (.aload_n 0, 1) := by decide +kernel
theorem dX6_undo_11 : decode cX6_undo 11 = .ok (.invokevirtual 192, 3) := by decide +kernel
theorem dX6_undo_14 : decode cX6_undo 14 = .ok (.ireturn, 1) := by decide +kernel
theorem dX6_undo_15 : decode cX6_undo 15 = .ok (.aload_n 0, 1) := by decide +kernel
theorem dX6_undo_16 : decode cX6_undo 16 = .ok (.getfield 7, 3) := by decide +kernel
theorem dX6_undo_19 : decode cX6_undo 19 = .ok (.bipush 7, 2) := by decide +kernel
theorem dX6_undo_21 : decode cX6_undo 21 = .ok (.dup2, 1) := by decide +kernel
theorem dX6_undo_22 : decode cX6_undo 22 = .ok (.iaload, 1) := by decide +kernel
theorem dX6_undo_23 : decode cX6_undo 23 = .ok (.iconst 1, 1) := by decide +kernel
theorem dX6_undo_24 : decode cX6_undo 24 = .ok (.isub, 1) := by decide +kernel
theorem dX6_undo_25 : decode cX6_undo 25 = .ok (.iastore, 1) := by decide +kernel
theorem dX6_undo_26 : decode cX6_undo 26 = .ok (.iconst 1, 1) := by decide +kernel
theorem dX6_undo_27 : decode cX6_undo 27 = .ok (.ireturn, 1) := by decide +kernel
theorem dX6_givenUp_0 : decode cX6_givenUp 0 = .ok (.iconst 0, 1) := by decide +kernel
theorem dX6_givenUp_1 : decode cX6_givenUp 1 = .ok (.istore_n 1, 1) := by decide +kernel
theorem dX6_givenUp_2 : decode cX6_givenUp 2 = .ok (.iconst 0, 1) := by decide +kernel
theorem dX6_givenUp_3 : decode cX6_givenUp 3 = .ok (.istore_n 2, 1) := by decide +kernel
theorem dX6_givenUp_4 : decode cX6_givenUp 4 = .ok (.iload_n 2, 1) := by decide +kernel
theorem dX6_givenUp_5 : decode cX6_givenUp 5 = .ok (.aload_n 0, 1) := by decide +kernel
theorem dX6_givenUp_6 : decode cX6_givenUp 6 = .ok (.getfield 7, 3) := by decide +kernel
theorem dX6_givenUp_9 : decode cX6_givenUp 9 = .ok (.bipush 7, 2) := by decide +kernel
theorem dX6_givenUp_11 : decode cX6_givenUp 11 = .ok (.iaload, 1) := by decide +kernel
theorem dX6_givenUp_12 : decode cX6_givenUp 12 = .ok (.if_icmp .ge 41, 3) := by decide +kernel
theorem dX6_givenUp_15 : decode cX6_givenUp 15 = .ok (.iload_n 1, 1) := by decide +kernel
theorem dX6_givenUp_16 : decode cX6_givenUp 16 = .ok (.aload_n 0, 1) := by decide +kernel
theorem dX6_givenUp_17 : decode cX6_givenUp 17 = .ok (.getfield 7, 3) := by decide +kernel
theorem dX6_givenUp_20 : decode cX6_givenUp 20 = .ok (.bipush 64, 2) := by decide +kernel
theorem dX6_givenUp_22 : decode cX6_givenUp 22 = .ok (.iload_n 2, 1) := by decide +kernel
theorem dX6_givenUp_23 : decode cX6_givenUp 23 = .ok (.iadd, 1) := by decide +kernel
theorem dX6_givenUp_24 : decode cX6_givenUp 24 = .ok (.iaload, 1) := by decide +kernel
theorem dX6_givenUp_25 : decode cX6_givenUp 25 = .ok (.bipush 12, 2) := by decide +kernel
theorem dX6_givenUp_27 : decode cX6_givenUp 27 = .ok (.if_icmp .ne 7, 3) := by decide +kernel
theorem dX6_givenUp_30 : decode cX6_givenUp 30 = .ok (.iconst 0, 1) := by decide +kernel
theorem dX6_givenUp_31 : decode cX6_givenUp 31 = .ok (.goto 14, 3) := by decide +kernel
theorem dX6_givenUp_34 : decode cX6_givenUp 34 = .ok (.iconst 1, 1) := by decide +kernel
theorem dX6_givenUp_35 : decode cX6_givenUp 35 = .ok (.aload_n 0, 1) := by decide +kernel
theorem dX6_givenUp_36 : decode cX6_givenUp 36 = .ok (.getfield 7, 3) := by decide +kernel
theorem dX6_givenUp_39 : decode cX6_givenUp 39 = .ok (.bipush 64, 2) := by decide +kernel
theorem dX6_givenUp_41 : decode cX6_givenUp 41 = .ok (.iload_n 2, 1) := by decide +kernel
theorem dX6_givenUp_42 : decode cX6_givenUp 42 = .ok (.iadd, 1) := by decide +kernel
theorem dX6_givenUp_43 : decode cX6_givenUp 43 = .ok (.iaload, 1) := by decide +kernel
theorem dX6_givenUp_44 : decode cX6_givenUp 44 = .ok (.ishl, 1) := by decide +kernel
theorem dX6_givenUp_45 : decode cX6_givenUp 45 = .ok (.ior, 1) := by decide +kernel
theorem dX6_givenUp_46 : decode cX6_givenUp 46 = .ok (.istore_n 1, 1) := by decide +kernel
theorem dX6_givenUp_47 : decode cX6_givenUp 47 = .ok (.iinc 2 1, 3) := by decide +kernel
theorem dX6_givenUp_50 : decode cX6_givenUp 50 = .ok (.goto (-46), 3) := by decide +kernel
theorem dX6_givenUp_53 : decode cX6_givenUp 53 = .ok (.iload_n 1, 1) := by decide +kernel
theorem dX6_givenUp_54 : decode cX6_givenUp 54 = .ok (.ireturn, 1) := by decide +kernel
set_option maxRecDepth 20000 in
theorem ggX6_now_X6_in : GoodIn wsX6_now wsX6_in := goodIn_r _ [6] (by decide +kernel) (by decide +kernel)
set_option maxRecDepth 20000 in
theorem gX6_now_X6_in : GoodIn wsX6_now (va_wsS RX6 56 yX6_in wsX6_in) := goodIn_app (goodIn_of _ (by decide +kernel)) ggX6_now_X6_in
set_option maxRecDepth 20000 in
theorem ggX6_now_X6_bad : GoodIn wsX6_now wsX6_bad := goodIn_r _ [10, 11, 12, 13, 5, 14, 15, 16, 29, 30, 31, 32, 33, 34, 35, 36, 37, 38, 39, 40, 41, 42, 43, 44, 45, 46, 47, 48] (by decide +kernel) (by decide +kernel)
set_option maxRecDepth 20000 in
theorem gX6_now_X6_bad : GoodIn wsX6_now (wsV RX6 71 RX6 yX6_bad wsX6_bad) := goodIn_app (goodIn_of _ (by decide +kernel)) ggX6_now_X6_bad
set_option maxRecDepth 20000 in
theorem ggX6_now_X6_givenUp : GoodIn wsX6_now wsX6_givenUp := goodIn_r _ [20, 2, 29, 30, 31, 32, 33, 34, 35, 36, 37, 38, 39, 40, 41, 42, 43, 44, 45, 46, 47, 48] (by decide +kernel) (by decide +kernel)
set_option maxRecDepth 20000 in
theorem gX6_now_X6_givenUp : GoodIn wsX6_now (wsV RX6 207 RX6 yX6_givenUp wsX6_givenUp) := goodIn_app (goodIn_of _ (by decide +kernel)) ggX6_now_X6_givenUp
set_option maxRecDepth 20000 in
theorem ggX6_now_X6_ofBolt : GoodIn wsX6_now wsX6_ofBolt := goodIn_r _ [24, 2, 29, 30, 31, 32, 33, 34, 35, 36, 37, 38, 39, 40, 41, 42, 43, 44, 45, 46, 47, 48] (by decide +kernel) (by decide +kernel)
set_option maxRecDepth 20000 in
theorem gX6_now_X6_ofBolt : GoodIn wsX6_now (wsV RX6 86 RX6 yX6_ofBolt wsX6_ofBolt) := goodIn_app (goodIn_of _ (by decide +kernel)) ggX6_now_X6_ofBolt
set_option maxRecDepth 20000 in
theorem ggX6_now_X6_moodNow : GoodIn wsX6_now wsX6_moodNow := goodIn_r _ [28, 2, 29, 30, 31, 32, 33, 34, 35, 36, 37, 38, 39, 40, 41, 42, 43, 44, 45, 46, 47, 48] (by decide +kernel) (by decide +kernel)
set_option maxRecDepth 20000 in
theorem gX6_now_X6_moodNow : GoodIn wsX6_now (wsV RX6 201 RX6 yX6_moodNow wsX6_moodNow) := goodIn_app (goodIn_of _ (by decide +kernel)) ggX6_now_X6_moodNow
theorem dX6_now_0 : decode cX6_now 0 = .ok (.iload_n 1, 1) := by decide +kernel
theorem dX6_now_1 : decode cX6_now 1 = .ok (.i2l, 1) := by decide +kernel
theorem dX6_now_2 : decode cX6_now 2 = .ok (.lconst 0, 1) := by decide +kernel
theorem dX6_now_3 : decode cX6_now 3 = .ok (.ldc2_w 67, 3) := by decide +kernel
theorem dX6_now_6 : decode cX6_now 6 = .ok (.invokestatic 56, 3) := by decide +kernel
theorem dX6_now_9 : decode cX6_now 9 = .ok (.ifCond .ne 8, 3) := by decide +kernel
theorem dX6_now_12 : decode cX6_now 12 = .ok (.aload_n 0, 1) := by decide +kernel
theorem dX6_now_13 : decode cX6_now 13 = .ok (.invokevirtual 71, 3) := by decide +kernel
theorem dX6_now_16 : decode cX6_now 16 = .ok (.ireturn, 1) := by decide +kernel
theorem dX6_now_17 : decode cX6_now 17 = .ok (.iconst 0, 1) := by decide +kernel
theorem dX6_now_18 : decode cX6_now 18 = .ok (.istore_n 2, 1) := by decide +kernel
theorem dX6_now_19 : decode cX6_now 19 = .ok (.iconst 0, 1) := by decide +kernel
theorem dX6_now_20 : decode cX6_now 20 = .ok (.istore_n 3, 1) := by decide +kernel
theorem dX6_now_21 : decode cX6_now 21 = .ok (.iload_n 3, 1) := by decide +kernel
theorem dX6_now_22 : decode cX6_now 22 = .ok (.aload_n 0, 1) := by decide +kernel
theorem dX6_now_23 : decode cX6_now 23 = .ok (.getfield 7, 3) := by decide +kernel
theorem dX6_now_26 : decode cX6_now 26 = .ok (.iconst 0, 1) := by decide +kernel
theorem dX6_now_27 : decode cX6_now 27 = .ok (.iaload, 1) := by decide +kernel
theorem dX6_now_28 : decode cX6_now 28 = .ok (.if_icmp .ge 27, 3) := by decide +kernel
theorem dX6_now_31 : decode cX6_now 31 = .ok (.iload_n 2, 1) := by decide +kernel
theorem dX6_now_32 : decode cX6_now 32 = .ok (.aload_n 0, 1) := by decide +kernel
theorem dX6_now_33 : decode cX6_now 33 = .ok (.invokevirtual 207, 3) := by decide +kernel
theorem dX6_now_36 : decode cX6_now 36 = .ok (.iload_n 3, 1) := by decide +kernel
theorem dX6_now_37 : decode cX6_now 37 = .ok (.ishr, 1) := by decide +kernel
theorem dX6_now_38 : decode cX6_now 38 = .ok (.iconst 1, 1) := by decide +kernel
theorem dX6_now_39 : decode cX6_now 39 = .ok (.iand, 1) := by decide +kernel
theorem dX6_now_40 : decode cX6_now 40 = .ok (.aload_n 0, 1) := by decide +kernel
theorem dX6_now_41 : decode cX6_now 41 = .ok (.iload_n 3, 1) := by decide +kernel
theorem dX6_now_42 : decode cX6_now 42 = .ok (.iconst 2, 1) := by decide +kernel
theorem dX6_now_43 : decode cX6_now 43 = .ok (.invokevirtual 86, 3) := by decide +kernel
theorem dX6_now_46 : decode cX6_now 46 = .ok (.imul, 1) := by decide +kernel
theorem dX6_now_47 : decode cX6_now 47 = .ok (.iadd, 1) := by decide +kernel
theorem dX6_now_48 : decode cX6_now 48 = .ok (.istore_n 2, 1) := by decide +kernel
theorem dX6_now_49 : decode cX6_now 49 = .ok (.iinc 3 1, 3) := by decide +kernel
theorem dX6_now_52 : decode cX6_now 52 = .ok (.goto (-31), 3) := by decide +kernel
theorem dX6_now_55 : decode cX6_now 55 = .ok (.iload_n 1, 1) := by decide +kernel
theorem dX6_now_56 : decode cX6_now 56 = .ok (.ifCond .ne 10, 3) := by decide +kernel
theorem dX6_now_59 : decode cX6_now 59 = .ok (.aload_n 0, 1) := by decide +kernel
theorem dX6_now_60 : decode cX6_now 60 = .ok (.invokevirtual 201, 3) := by decide +kernel
theorem dX6_now_63 : decode cX6_now 63 = .ok (.goto 31, 3) := by decide +kernel
theorem dX6_now_66 : decode cX6_now 66 = .ok (.iload_n 1, 1) := by decide +kernel
theorem dX6_now_67 : decode cX6_now 67 = .ok (.iconst 1, 1) := by decide +kernel
theorem dX6_now_68 : decode cX6_now 68 = .ok (.if_icmp .ne 13, 3) := by decide +kernel
theorem dX6_now_71 : decode cX6_now 71 = .ok (.aload_n 0, 1) := by decide +kernel
theorem dX6_now_72 : decode cX6_now 72 = .ok (.getfield 7, 3) := by decide +kernel
theorem dX6_now_75 : decode cX6_now 75 = .ok (.bipush 7, 2) := by decide +kernel
theorem dX6_now_77 : decode cX6_now 77 = .ok (.iaload, 1) := by decide +kernel
theorem dX6_now_78 : decode cX6_now 78 = .ok (.goto 16, 3) := by decide +kernel
theorem dX6_now_81 : decode cX6_now 81 = .ok (.iload_n 1, 1) := by decide +kernel
theorem dX6_now_82 : decode cX6_now 82 = .ok (.iconst 2, 1) := by decide +kernel
theorem dX6_now_83 : decode cX6_now 83 = .ok (.if_icmp .ne 10, 3) := by decide +kernel
theorem dX6_now_86 : decode cX6_now 86 = .ok (.aload_n 0, 1) := by decide +kernel
theorem dX6_now_87 : decode cX6_now 87 = .ok (.invokevirtual 207, 3) := by decide +kernel
theorem dX6_now_90 : decode cX6_now 90 = .ok (.goto 4, 3) := by decide +kernel
theorem dX6_now_93 : decode cX6_now 93 = .ok (.iload_n 2, 1) := by decide +kernel
theorem dX6_now_94 : decode cX6_now 94 = .ok (.ireturn, 1) := by decide +kernel
set_option maxRecDepth 20000 in
theorem ggX6_eaten_X6_isMoth : GoodIn wsX6_eaten wsX6_isMoth := goodIn_r _ [6, 1, 7, 8, 5, 9, 32, 33, 34, 35, 36, 37, 38, 39, 40, 41, 42, 43, 44, 45, 46, 47, 48, 49, 50, 51] (by decide +kernel) (by decide +kernel)
set_option maxRecDepth 20000 in
theorem gX6_eaten_X6_isMoth : GoodIn wsX6_eaten (wsV RX6 89 RX6 yX6_isMoth wsX6_isMoth) := goodIn_app (goodIn_of _ (by decide +kernel)) ggX6_eaten_X6_isMoth
set_option maxRecDepth 20000 in
theorem ggX6_eaten_X6_refuses : GoodIn wsX6_eaten wsX6_refuses := goodIn_r _ [13, 14, 15, 32, 33, 34, 35, 36, 37, 38, 39, 40, 41, 42, 43, 44, 45, 46, 47, 48, 49, 50, 51] (by decide +kernel) (by decide +kernel)
set_option maxRecDepth 20000 in
theorem gX6_eaten_X6_refuses : GoodIn wsX6_eaten (wsV RX6 52 RX6 yX6_refuses wsX6_refuses) := goodIn_app (goodIn_of _ (by decide +kernel)) ggX6_eaten_X6_refuses
set_option maxRecDepth 20000 in
theorem ggX6_eaten_X6_moodNow : GoodIn wsX6_eaten wsX6_moodNow := goodIn_r _ [19, 1, 32, 33, 34, 35, 36, 37, 38, 39, 40, 41, 42, 43, 44, 45, 46, 47, 48, 49, 50, 51] (by decide +kernel) (by decide +kernel)
set_option maxRecDepth 20000 in
theorem gX6_eaten_X6_moodNow : GoodIn wsX6_eaten (wsV RX6 201 RX6 yX6_moodNow wsX6_moodNow) := goodIn_app (goodIn_of _ (by decide +kernel)) ggX6_eaten_X6_moodNow
set_option maxRecDepth 20000 in
theorem ggX6_eaten_X6_givenUp : GoodIn wsX6_eaten wsX6_givenUp := goodIn_r _ [23, 1, 32, 33, 34, 35, 36, 37, 38, 39, 40, 41, 42, 43, 44, 45, 46, 47, 48, 49, 50, 51] (by decide +kernel) (by decide +kernel)
set_option maxRecDepth 20000 in
theorem gX6_eaten_X6_givenUp : GoodIn wsX6_eaten (wsV RX6 207 RX6 yX6_givenUp wsX6_givenUp) := goodIn_app (goodIn_of _ (by decide +kernel)) ggX6_eaten_X6_givenUp
set_option maxRecDepth 20000 in
theorem ggX6_eaten_X6_ofBolt : GoodIn wsX6_eaten wsX6_ofBolt := goodIn_r _ [27, 1, 32, 33, 34, 35, 36, 37, 38, 39, 40, 41, 42, 43, 44, 45, 46, 47, 48, 49, 50, 51] (by decide +kernel) (by decide +kernel)
set_option maxRecDepth 20000 in
theorem gX6_eaten_X6_ofBolt : GoodIn wsX6_eaten (wsV RX6 86 RX6 yX6_ofBolt wsX6_ofBolt) := goodIn_app (goodIn_of _ (by decide +kernel)) ggX6_eaten_X6_ofBolt
set_option maxRecDepth 20000 in
theorem ggX6_eaten_X6_wants : GoodIn wsX6_eaten wsX6_wants := goodIn_r _ [31, 1, 24, 25, 26, 5, 27, 32, 33, 34, 35, 36, 37, 38, 39, 40, 41, 42, 43, 44, 45, 46, 47, 48, 49, 50, 51] (by decide +kernel) (by decide +kernel)
set_option maxRecDepth 20000 in
theorem gX6_eaten_X6_wants : GoodIn wsX6_eaten (wsV RX6 96 RX6 yX6_wants wsX6_wants) := goodIn_app (goodIn_of _ (by decide +kernel)) ggX6_eaten_X6_wants
theorem dX6_eaten_0 : decode cX6_eaten 0 = .ok (.iload_n 1, 1) := by decide +kernel
theorem dX6_eaten_1 : decode cX6_eaten 1 = .ok (.iconst (-1), 1) := by decide +kernel
theorem dX6_eaten_2 : decode cX6_eaten 2 = .ok (.if_icmp .eq 19, 3) := by decide +kernel
theorem dX6_eaten_5 : decode cX6_eaten 5 = .ok (.aload_n 0, 1) := by decide +kernel
theorem dX6_eaten_6 : decode cX6_eaten 6 = .ok (.iload_n 1, 1) := by decide +kernel
theorem dX6_eaten_7 : decode cX6_eaten 7 = .ok (.invokevirtual 89, 3) := by decide +kernel
theorem dX6_eaten_10 : decode cX6_eaten 10 = .ok (.ifCond .ne 11, 3) := by decide +kernel
theorem dX6_eaten_13 : decode cX6_eaten 13 = .ok (.aload_n 0, 1) := by decide +kernel
theorem dX6_eaten_14 : decode cX6_eaten 14 = .ok (.iconst 0, 1) := by decide +kernel
theorem dX6_eaten_15 : decode cX6_eaten 15 = .ok (.bipush (-10), 2) := by decide +kernel
theorem dX6_eaten_17 : decode cX6_eaten 17 = .ok (.invokevirtual 52, 3) := by decide +kernel
theorem dX6_eaten_20 : decode cX6_eaten 20 = .ok (.ireturn, 1) := by decide +kernel
theorem dX6_eaten_21 : decode cX6_eaten 21 = .ok (.aload_n 0, 1) := by decide +kernel
theorem dX6_eaten_22 : decode cX6_eaten 22 = .ok (.invokevirtual 201, 3) := by decide +kernel
theorem dX6_eaten_25 : decode cX6_eaten 25 = .ok (.ifCond .le 11, 3) := by decide +kernel
theorem dX6_eaten_28 : decode cX6_eaten 28 = .ok (.aload_n 0, 1) := by decide +kernel
theorem dX6_eaten_29 : decode cX6_eaten 29 = .ok (.iconst 1, 1) := by decide +kernel
theorem dX6_eaten_30 : decode cX6_eaten 30 = .ok (.bipush (-20), 2) := by decide +kernel
theorem dX6_eaten_32 : decode cX6_eaten 32 = .ok (.invokevirtual 52, 3) := by decide +kernel
theorem dX6_eaten_35 : decode cX6_eaten 35 = .ok (.ireturn, 1) := by decide +kernel
theorem dX6_eaten_36 : decode cX6_eaten 36 = .ok (.aload_n 0, 1) := by decide +kernel
theorem dX6_eaten_37 : decode cX6_eaten 37 = .ok (.invokevirtual 207, 3) := by decide +kernel
theorem dX6_eaten_40 : decode cX6_eaten 40 = .ok (.istore_n 2, 1) := by decide +kernel
theorem dX6_eaten_41 : decode cX6_eaten 41 = .ok (.iconst 0, 1) := by decide +kernel
theorem dX6_eaten_42 : decode cX6_eaten 42 = .ok (.istore_n 3, 1) := by decide +kernel
theorem dX6_eaten_43 : decode cX6_eaten 43 = .ok (.iconst (-1), 1) := by decide +kernel
theorem dX6_eaten_44 : decode cX6_eaten 44 = .ok (.istore 4, 2) := by decide +kernel
theorem dX6_eaten_46 : decode cX6_eaten 46 = .ok (.iconst 0, 1) := by decide +kernel
theorem dX6_eaten_47 : decode cX6_eaten 47 = .ok (.istore 5, 2) := by decide +kernel
theorem dX6_eaten_49 : decode cX6_eaten 49 = .ok (.iload 5, 2) := by decide +kernel
theorem dX6_eaten_51 : decode cX6_eaten 51 = .ok (.aload_n 0, 1) := by decide +kernel
theorem dX6_eaten_52 : decode cX6_eaten 52 = .ok (.getfield 7, 3) := by decide +kernel
theorem dX6_eaten_55 : decode cX6_eaten 55 = .ok (.iconst 1, 1) := by decide +kernel
theorem dX6_eaten_56 : decode cX6_eaten 56 = .ok (.iaload, 1) := by decide +kernel
theorem dX6_eaten_57 : decode cX6_eaten 57 = .ok (.if_icmp .ge 130, 3) := by decide +kernel
theorem dX6_eaten_60 : decode cX6_eaten 60 = .ok (.iconst (-1), 1) := by decide +kernel
theorem dX6_eaten_61 : decode cX6_eaten 61 = .ok (.istore 6, 2) := by decide +kernel
theorem dX6_eaten_63 : decode cX6_eaten 63 = .ok (.iconst 0, 1) := by decide +kernel
theorem dX6_eaten_64 : decode cX6_eaten 64 = .ok (.istore 7, 2) := by decide +kernel
theorem dX6_eaten_66 : decode cX6_eaten 66 = .ok (.iconst 0, 1) := by decide +kernel
theorem dX6_eaten_67 : decode cX6_eaten 67 = .ok (.istore 8, 2) := by decide +kernel
theorem dX6_eaten_69 : decode cX6_eaten 69 = .ok (.iload 8, 2) := by decide +kernel
theorem dX6_eaten_71 : decode cX6_eaten 71 = .ok (.aload_n 0, 1) := by decide +kernel
theorem dX6_eaten_72 : decode cX6_eaten 72 = .ok (.getfield 7, 3) := by decide +kernel
theorem dX6_eaten_75 : decode cX6_eaten 75 = .ok (.iconst 0, 1) := by decide +kernel
theorem dX6_eaten_76 : decode cX6_eaten 76 = .ok (.iaload, 1) := by decide +kernel
theorem dX6_eaten_77 : decode cX6_eaten 77 = .ok (.if_icmp .ge 55, 3) := by decide +kernel
theorem dX6_eaten_80 : decode cX6_eaten 80 = .ok (.iload_n 2, 1) := by decide +kernel
theorem dX6_eaten_81 : decode cX6_eaten 81 = .ok (.iload 8, 2) := by decide +kernel
theorem dX6_eaten_83 : decode cX6_eaten 83 = .ok (.ishr, 1) := by decide +kernel
theorem dX6_eaten_84 : decode cX6_eaten 84 = .ok (.iconst 1, 1) := by decide +kernel
theorem dX6_eaten_85 : decode cX6_eaten 85 = .ok (.iand, 1) := by decide +kernel
theorem dX6_eaten_86 : decode cX6_eaten 86 = .ok (.iconst 1, 1) := by decide +kernel
theorem dX6_eaten_87 : decode cX6_eaten 87 = .ok (.if_icmp .ne 7, 3) := by decide +kernel
theorem dX6_eaten_90 : decode cX6_eaten 90 = .ok (.iconst 0, 1) := by decide +kernel
theorem dX6_eaten_91 : decode cX6_eaten 91 = .ok (.goto 18, 3) := by decide +kernel
theorem dX6_eaten_94 : decode cX6_eaten 94 = .ok (.aload_n 0, 1) := by decide +kernel
theorem dX6_eaten_95 : decode cX6_eaten 95 = .ok (.iload 5, 2) := by decide +kernel
theorem dX6_eaten_97 : decode cX6_eaten 97 = .ok (.iload 8, 2) := by decide +kernel
theorem dX6_eaten_99 : decode cX6_eaten 99 = .ok (.aload_n 0, 1) := by decide +kernel
theorem dX6_eaten_100 : decode cX6_eaten 100 = .ok (.iload 8, 2) := by decide +kernel
theorem dX6_eaten_102 : decode cX6_eaten 102 = .ok (.iconst 1, 1) := by decide +kernel
theorem dX6_eaten_103 : decode cX6_eaten 103 = .ok (.invokevirtual 86, 3) := by decide +kernel
theorem dX6_eaten_106 : decode cX6_eaten 106 = .ok (.invokevirtual 96, 3) := by decide +kernel
theorem dX6_eaten_109 : decode cX6_eaten 109 = .ok (.istore 9, 2) := by decide +kernel
theorem dX6_eaten_111 : decode cX6_eaten 111 = .ok (.iload 9, 2) := by decide +kernel
theorem dX6_eaten_113 : decode cX6_eaten 113 = .ok (.iload 7, 2) := by decide +kernel
theorem dX6_eaten_115 : decode cX6_eaten 115 = .ok (.if_icmp .le 11, 3) := by decide +kernel
theorem dX6_eaten_118 : decode cX6_eaten 118 = .ok (.iload 8, 2) := by decide +kernel
theorem dX6_eaten_120 : decode cX6_eaten 120 = .ok (.istore 6, 2) := by decide +kernel
theorem dX6_eaten_122 : decode cX6_eaten 122 = .ok (.iload 9, 2) := by decide +kernel
theorem dX6_eaten_124 : decode cX6_eaten 124 = .ok (.istore 7, 2) := by decide +kernel
theorem dX6_eaten_126 : decode cX6_eaten 126 = .ok (.iinc 8 1, 3) := by decide +kernel
theorem dX6_eaten_129 : decode cX6_eaten 129 = .ok (.goto (-60), 3) := by decide +kernel
theorem dX6_eaten_132 : decode cX6_eaten 132 = .ok (.iload_n 2, 1) := by decide +kernel
theorem dX6_eaten_133 : decode cX6_eaten 133 = .ok (.iload 6, 2) := by decide +kernel
theorem dX6_eaten_135 : decode cX6_eaten 135 = .ok (.iconst (-1), 1) := by decide +kernel
theorem dX6_eaten_136 : decode cX6_eaten 136 = .ok (.if_icmp .ne 7, 3) := by decide +kernel
theorem dX6_eaten_139 : decode cX6_eaten 139 = .ok (.iconst 0, 1) := by decide +kernel
theorem dX6_eaten_140 : decode cX6_eaten 140 = .ok (.goto 7, 3) := by decide +kernel
theorem dX6_eaten_143 : decode cX6_eaten 143 = .ok (.iconst 1, 1) := by decide +kernel
theorem dX6_eaten_144 : decode cX6_eaten 144 = .ok (.iload 6, 2) := by decide +kernel
theorem dX6_eaten_146 : decode cX6_eaten 146 = .ok (.ishl, 1) := by decide +kernel
theorem dX6_eaten_147 : decode cX6_eaten 147 = .ok (.ior, 1) := by decide +kernel
theorem dX6_eaten_148 : decode cX6_eaten 148 = .ok (.istore_n 2, 1) := by decide +kernel
theorem dX6_eaten_149 : decode cX6_eaten 149 = .ok (.iload_n 3, 1) := by decide +kernel
theorem dX6_eaten_150 : decode cX6_eaten 150 = .ok (.iload 6, 2) := by decide +kernel
theorem dX6_eaten_152 : decode cX6_eaten 152 = .ok (.iconst (-1), 1) := by decide +kernel
theorem dX6_eaten_153 : decode cX6_eaten 153 = .ok (.if_icmp .ne 7, 3) := by decide +kernel
theorem dX6_eaten_156 : decode cX6_eaten 156 = .ok (.iconst 0, 1) := by decide +kernel
theorem dX6_eaten_157 : decode cX6_eaten 157 = .ok (.goto 7, 3) := by decide +kernel
theorem dX6_eaten_160 : decode cX6_eaten 160 = .ok (.iconst 1, 1) := by decide +kernel
theorem dX6_eaten_161 : decode cX6_eaten 161 = .ok (.iload 6, 2) := by decide +kernel
theorem dX6_eaten_163 : decode cX6_eaten 163 = .ok (.ishl, 1) := by decide +kernel
theorem dX6_eaten_164 : decode cX6_eaten 164 = .ok (.ior, 1) := by decide +kernel
theorem dX6_eaten_165 : decode cX6_eaten 165 = .ok (.istore_n 3, 1) := by decide +kernel
theorem dX6_eaten_166 : decode cX6_eaten 166 = .ok (.iload 5, 2) := by decide +kernel
theorem dX6_eaten_168 : decode cX6_eaten 168 = .ok (.iload_n 1, 1) := by decide +kernel
theorem dX6_eaten_169 : decode cX6_eaten 169 = .ok (.if_icmp .ne 8, 3) := by decide +kernel
theorem dX6_eaten_172 : decode cX6_eaten 172 = .ok (.iload 6, 2) := by decide +kernel
theorem dX6_eaten_174 : decode cX6_eaten 174 = .ok (.goto 5, 3) := by decide +kernel
theorem dX6_eaten_177 : decode cX6_eaten 177 = .ok (.iload 4, 2) := by decide +kernel
theorem dX6_eaten_179 : decode cX6_eaten 179 = .ok (.istore 4, 2) := by decide +kernel
theorem dX6_eaten_181 : decode cX6_eaten 181 = .ok (.iinc 5 1, 3) := by decide +kernel
theorem dX6_eaten_184 : decode cX6_eaten 184 = .ok (.goto (-135), 3) := by decide +kernel
theorem dX6_eaten_187 : decode cX6_eaten 187 = .ok (.iload_n 1, 1) := by decide +kernel
theorem dX6_eaten_188 : decode cX6_eaten 188 = .ok (.iconst (-1), 1) := by decide +kernel
theorem dX6_eaten_189 : decode cX6_eaten 189 = .ok (.if_icmp .ne 7, 3) := by decide +kernel
theorem dX6_eaten_192 : decode cX6_eaten 192 = .ok (.iload_n 3, 1) := by decide +kernel
theorem dX6_eaten_193 : decode cX6_eaten 193 = .ok (.goto 5, 3) := by decide +kernel
theorem dX6_eaten_196 : decode cX6_eaten 196 = .ok (.iload 4, 2) := by decide +kernel
theorem dX6_eaten_198 : decode cX6_eaten 198 = .ok (.ireturn, 1) := by decide +kernel
set_option maxRecDepth 20000 in
theorem ggX6_drawn_X6_in : GoodIn wsX6_drawn wsX6_in := goodIn_r _ [12] (by decide +kernel) (by decide +kernel)
