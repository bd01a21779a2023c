set_option maxRecDepth 20000 in
theorem gX6_drawn_X6_in : GoodIn wsX6_drawn (va_wsS RX6 56 yX6_in wsX6_in) := goodIn_app (goodIn_of _ (by decide +kernel)) ggX6_drawn_X6_in
set_option maxRecDepth 20000 in
theorem ggX6_drawn_X6_bad : GoodIn wsX6_drawn wsX6_bad := goodIn_r _ [16, 17, 18, 19, 11, 20, 21, 22, 56, 57, 58, 59, 60, 61, 62, 63, 64, 65, 66, 67, 68, 69, 70, 71, 72, 73, 74, 75] (by decide +kernel) (by decide +kernel)
set_option maxRecDepth 20000 in
theorem gX6_drawn_X6_bad : GoodIn wsX6_drawn (wsV RX6 71 RX6 yX6_bad wsX6_bad) := goodIn_app (goodIn_of _ (by decide +kernel)) ggX6_drawn_X6_bad
set_option maxRecDepth 20000 in
theorem ggX6_drawn_X6_cheapestBy : GoodIn wsX6_drawn wsX6_cheapestBy := goodIn_r _ [26, 27, 2, 8, 28, 29, 30, 11, 31, 32, 33, 34, 35, 9, 10, 12, 36, 37, 38, 39, 40, 41, 42, 43, 44, 45, 46, 47, 48, 49, 50, 51, 56, 57, 58, 59, 60, 61, 62, 63, 64, 65, 66, 67, 68, 69, 70, 71, 72, 73, 74, 75] (by decide +kernel) (by decide +kernel)
set_option maxRecDepth 20000 in
theorem gX6_drawn_X6_cheapestBy : GoodIn wsX6_drawn (wsV RX6 189 RX6 yX6_cheapestBy wsX6_cheapestBy) := goodIn_app (goodIn_of _ (by decide +kernel)) ggX6_drawn_X6_cheapestBy
set_option maxRecDepth 20000 in
theorem ggX6_drawn_X6_no : GoodIn wsX6_drawn wsX6_no := goodIn_r _ [55, 17, 18, 19, 11, 20, 21, 22, 56, 57, 58, 59, 60, 61, 62, 63, 64, 65, 66, 67, 68, 69, 70, 71, 72, 73, 74, 75] (by decide +kernel) (by decide +kernel)
set_option maxRecDepth 20000 in
theorem gX6_drawn_X6_no : GoodIn wsX6_drawn (wsV RX6 192 RX6 yX6_no wsX6_no) := goodIn_app (goodIn_of _ (by decide +kernel)) ggX6_drawn_X6_no
set_option maxRecDepth 20000 in
theorem ggX6_drawn_X6_groups : GoodIn wsX6_drawn wsX6_groups := goodIn_r _ [31, 2, 56, 57, 58, 59, 60, 61, 62, 63, 64, 65, 66, 67, 68, 69, 70, 71, 72, 73, 74, 75] (by decide +kernel) (by decide +kernel)
set_option maxRecDepth 20000 in
theorem gX6_drawn_X6_groups : GoodIn wsX6_drawn (wsV RX6 181 RX6 yX6_groups wsX6_groups) := goodIn_app (goodIn_of _ (by decide +kernel)) ggX6_drawn_X6_groups
set_option maxRecDepth 20000 in
theorem ggX6_drawn_X6_moodBehind : GoodIn wsX6_drawn wsX6_moodBehind := goodIn_r _ [39, 40, 41, 42, 11, 43, 2, 44, 45, 46, 47, 48, 49, 50, 51, 56, 57, 58, 59, 60, 61, 62, 63, 64, 65, 66, 67, 68, 69, 70, 71, 72, 73, 74, 75] (by decide +kernel) (by decide +kernel)
set_option maxRecDepth 20000 in
theorem gX6_drawn_X6_moodBehind : GoodIn wsX6_drawn (wsV RX6 184 RX6 yX6_moodBehind wsX6_moodBehind) := goodIn_app (goodIn_of _ (by decide +kernel)) ggX6_drawn_X6_moodBehind
theorem dX6_drawn_0 : decode cX6_drawn 0 = .ok (.iload_n 1, 1) := by decide +kernel
theorem dX6_drawn_1 : decode cX6_drawn 1 = .ok (.i2l, 1) := by decide +kernel
theorem dX6_drawn_2 : decode cX6_drawn 2 = .ok (.lconst 0, 1) := by decide +kernel
theorem dX6_drawn_3 : decode cX6_drawn 3 = .ok (.ldc2_w 210, 3) := by decide +kernel
theorem dX6_drawn_6 : decode cX6_drawn 6 = .ok (.invokestatic 56, 3) := by decide +kernel
theorem dX6_drawn_9 : decode cX6_drawn 9 = .ok (.ifCond .ne 8, 3) := by decide +kernel
theorem dX6_drawn_12 : decode cX6_drawn 12 = .ok (.aload_n 0, 1) := by decide +kernel
theorem dX6_drawn_13 : decode cX6_drawn 13 = .ok (.invokevirtual 71, 3) := by decide +kernel
theorem dX6_drawn_16 : decode cX6_drawn 16 = .ok (.ireturn, 1) := by decide +kernel
theorem dX6_drawn_17 : decode cX6_drawn 17 = .ok (.aload_n 0, 1) := by decide +kernel
theorem dX6_drawn_18 : decode cX6_drawn 18 = .ok (.aload_n 0, 1) := by decide +kernel
theorem dX6_drawn_19 : decode cX6_drawn 19 = .ok (.getfield 7, 3) := by decide +kernel
theorem dX6_drawn_22 : decode cX6_drawn 22 = .ok (.iconst 4, 1) := by decide +kernel
theorem dX6_drawn_23 : decode cX6_drawn 23 = .ok (.iaload, 1) := by decide +kernel
theorem dX6_drawn_24 : decode cX6_drawn 24 = .ok (.invokevirtual 189, 3) := by decide +kernel
theorem dX6_drawn_27 : decode cX6_drawn 27 = .ok (.iconst (-1), 1) := by decide +kernel
theorem dX6_drawn_28 : decode cX6_drawn 28 = .ok (.if_icmp .ne 8, 3) := by decide +kernel
theorem dX6_drawn_31 : decode cX6_drawn 31 = .ok (.aload_n 0, 1) := by decide +kernel
theorem dX6_drawn_32 : decode cX6_drawn 32 = .ok (.invokevirtual 192, 3) := by decide +kernel
theorem dX6_drawn_35 : decode cX6_drawn 35 = .ok (.ireturn, 1) := by decide +kernel
theorem dX6_drawn_36 : decode cX6_drawn 36 = .ok (.iload_n 1, 1) := by decide +kernel
theorem dX6_drawn_37 : decode cX6_drawn 37 = .ok (.i2l, 1) := by decide +kernel
theorem dX6_drawn_38 : decode cX6_drawn 38 = .ok (.lstore_n 2, 1) := by decide +kernel
theorem dX6_drawn_39 : decode cX6_drawn 39 = .ok (.aload_n 0, 1) := by decide +kernel
theorem dX6_drawn_40 : decode cX6_drawn 40 = .ok (.getfield 7, 3) := by decide +kernel
theorem dX6_drawn_43 : decode cX6_drawn 43 = .ok (.bipush 6, 2) := by decide +kernel
theorem dX6_drawn_45 : decode cX6_drawn 45 = .ok (.iaload, 1) := by decide +kernel
theorem dX6_drawn_46 : decode cX6_drawn 46 = .ok (.istore 4, 2) := by decide +kernel
theorem dX6_drawn_48 : decode cX6_drawn 48 = .ok (.iconst 0, 1) := by decide +kernel
theorem dX6_drawn_49 : decode cX6_drawn 49 = .ok (.istore 5, 2) := by decide +kernel
theorem dX6_drawn_51 : decode cX6_drawn 51 = .ok (.iload 5, 2) := by decide +kernel
theorem dX6_drawn_53 : decode cX6_drawn 53 = .ok (.aload_n 0, 1) := by decide +kernel
theorem dX6_drawn_54 : decode cX6_drawn 54 = .ok (.aload_n 0, 1) := by decide +kernel
theorem dX6_drawn_55 : decode cX6_drawn 55 = .ok (.getfield 7, 3) := by decide +kernel
theorem dX6_drawn_58 : decode cX6_drawn 58 = .ok (.iconst 4, 1) := by decide +kernel
theorem dX6_drawn_59 : decode cX6_drawn 59 = .ok (.iaload, 1) := by decide +kernel
theorem dX6_drawn_60 : decode cX6_drawn 60 = .ok (.invokevirtual 181, 3) := by decide +kernel
theorem dX6_drawn_63 : decode cX6_drawn 63 = .ok (.if_icmp .ge 60, 3) := by decide +kernel
theorem dX6_drawn_66 : decode cX6_drawn 66 = .ok (.lload_n 2, 1) := by decide +kernel
theorem dX6_drawn_67 : decode cX6_drawn 67 = .ok (.ldc2_w 212, 3) := by decide +kernel
theorem dX6_drawn_70 : decode cX6_drawn 70 = .ok (.lmul, 1) := by decide +kernel
theorem dX6_drawn_71 : decode cX6_drawn 71 = .ok (.ldc2_w 214, 3) := by decide +kernel
theorem dX6_drawn_74 : decode cX6_drawn 74 = .ok (.ladd, 1) := by decide +kernel
theorem dX6_drawn_75 : decode cX6_drawn 75 = .ok (.ldc2_w 216, 3) := by decide +kernel
theorem dX6_drawn_78 : decode cX6_drawn 78 = .ok (.lrem, 1) := by decide +kernel
theorem dX6_drawn_79 : decode cX6_drawn 79 = .ok (.lstore_n 2, 1) := by decide +kernel
theorem dX6_drawn_80 : decode cX6_drawn 80 = .ok (.lload_n 2, 1) := by decide +kernel
theorem dX6_drawn_81 : decode cX6_drawn 81 = .ok (.ldc2_w 218, 3) := by decide +kernel
theorem dX6_drawn_84 : decode cX6_drawn 84 = .ok (.ldiv, 1) := by decide +kernel
theorem dX6_drawn_85 : decode cX6_drawn 85 = .ok (.ldc2_w 195, 3) := by decide +kernel
theorem dX6_drawn_88 : decode cX6_drawn 88 = .ok (.lrem, 1) := by decide +kernel
theorem dX6_drawn_89 : decode cX6_drawn 89 = .ok (.bipush 10, 2) := by decide +kernel
theorem dX6_drawn_91 : decode cX6_drawn 91 = .ok (.iload 4, 2) := by decide +kernel
theorem dX6_drawn_93 : decode cX6_drawn 93 = .ok (.isub, 1) := by decide +kernel
theorem dX6_drawn_94 : decode cX6_drawn 94 = .ok (.i2l, 1) := by decide +kernel
theorem dX6_drawn_95 : decode cX6_drawn 95 = .ok (.lcmp, 1) := by decide +kernel
theorem dX6_drawn_96 : decode cX6_drawn 96 = .ok (.ifCond .ge 6, 3) := by decide +kernel
theorem dX6_drawn_99 : decode cX6_drawn 99 = .ok (.iload 5, 2) := by decide +kernel
theorem dX6_drawn_101 : decode cX6_drawn 101 = .ok (.ireturn, 1) := by decide +kernel
theorem dX6_drawn_102 : decode cX6_drawn 102 = .ok (.aload_n 0, 1) := by decide +kernel
theorem dX6_drawn_103 : decode cX6_drawn 103 = .ok (.iload 4, 2) := by decide +kernel
theorem dX6_drawn_105 : decode cX6_drawn 105 = .ok (.aload_n 0, 1) := by decide +kernel
theorem dX6_drawn_106 : decode cX6_drawn 106 = .ok (.getfield 32, 3) := by decide +kernel
theorem dX6_drawn_109 : decode cX6_drawn 109 = .ok (.iload 5, 2) := by decide +kernel
theorem dX6_drawn_111 : decode cX6_drawn 111 = .ok (.iaload, 1) := by decide +kernel
theorem dX6_drawn_112 : decode cX6_drawn 112 = .ok (.invokevirtual 184, 3) := by decide +kernel
theorem dX6_drawn_115 : decode cX6_drawn 115 = .ok (.istore 4, 2) := by decide +kernel
theorem dX6_drawn_117 : decode cX6_drawn 117 = .ok (.iinc 5 1, 3) := by decide +kernel
theorem dX6_drawn_120 : decode cX6_drawn 120 = .ok (.goto (-69), 3) := by decide +kernel
theorem dX6_drawn_123 : decode cX6_drawn 123 = .ok (.iconst (-1), 1) := by decide +kernel
theorem dX6_drawn_124 : decode cX6_drawn 124 = .ok (.ireturn, 1) := by decide +kernel
set_option maxRecDepth 20000 in
theorem ggX6_holes_X6_isBolt : GoodIn wsX6_holes wsX6_isBolt := goodIn_r _ [7, 2, 8, 9, 6, 10, 21, 22, 23, 24, 25, 26, 27, 28, 29, 30, 31, 32, 33, 34, 35, 36, 37, 38, 39, 40] (by decide +kernel) (by decide +kernel)
set_option maxRecDepth 20000 in
theorem gX6_holes_X6_isBolt : GoodIn wsX6_holes (wsV RX6 93 RX6 yX6_isBolt wsX6_isBolt) := goodIn_app (goodIn_of _ (by decide +kernel)) ggX6_holes_X6_isBolt
set_option maxRecDepth 20000 in
theorem ggX6_holes_X6_in : GoodIn wsX6_holes wsX6_in := goodIn_r _ [10] (by decide +kernel) (by decide +kernel)
set_option maxRecDepth 20000 in
theorem gX6_holes_X6_in : GoodIn wsX6_holes (va_wsS RX6 56 yX6_in wsX6_in) := goodIn_app (goodIn_of _ (by decide +kernel)) ggX6_holes_X6_in
set_option maxRecDepth 20000 in
theorem ggX6_holes_X6_refuses : GoodIn wsX6_holes wsX6_refuses := goodIn_r _ [14, 15, 16, 21, 22, 23, 24, 25, 26, 27, 28, 29, 30, 31, 32, 33, 34, 35, 36, 37, 38, 39, 40] (by decide +kernel) (by decide +kernel)
set_option maxRecDepth 20000 in
theorem gX6_holes_X6_refuses : GoodIn wsX6_holes (wsV RX6 52 RX6 yX6_refuses wsX6_refuses) := goodIn_app (goodIn_of _ (by decide +kernel)) ggX6_holes_X6_refuses
set_option maxRecDepth 20000 in
theorem ggX6_holes_X6_ofBolt : GoodIn wsX6_holes wsX6_ofBolt := goodIn_r _ [20, 2, 21, 22, 23, 24, 25, 26, 27, 28, 29, 30, 31, 32, 33, 34, 35, 36, 37, 38, 39, 40] (by decide +kernel) (by decide +kernel)
set_option maxRecDepth 20000 in
theorem gX6_holes_X6_ofBolt : GoodIn wsX6_holes (wsV RX6 86 RX6 yX6_ofBolt wsX6_ofBolt) := goodIn_app (goodIn_of _ (by decide +kernel)) ggX6_holes_X6_ofBolt
theorem dX6_holes_0 : decode cX6_holes 0 = .ok (.aload_n 0, 1) := by decide +kernel
theorem dX6_holes_1 : decode cX6_holes 1 = .ok (.iload_n 1, 1) := by decide +kernel
theorem dX6_holes_2 : decode cX6_holes 2 = .ok (.invokevirtual 93, 3) := by decide +kernel
theorem dX6_holes_5 : decode cX6_holes 5 = .ok (.ifCond .eq 20, 3) := by decide +kernel
theorem dX6_holes_8 : decode cX6_holes 8 = .ok (.iload_n 2, 1) := by decide +kernel
theorem dX6_holes_9 : decode cX6_holes 9 = .ok (.iconst (-1), 1) := by decide +kernel
theorem dX6_holes_10 : decode cX6_holes 10 = .ok (.if_icmp .eq 23, 3) := by decide +kernel
theorem dX6_holes_13 : decode cX6_holes 13 = .ok (.iload_n 2, 1) := by decide +kernel
theorem dX6_holes_14 : decode cX6_holes 14 = .ok (.i2l, 1) := by decide +kernel
theorem dX6_holes_15 : decode cX6_holes 15 = .ok (.lconst 0, 1) := by decide +kernel
theorem dX6_holes_16 : decode cX6_holes 16 = .ok (.ldc2_w 69, 3) := by decide +kernel
theorem dX6_holes_19 : decode cX6_holes 19 = .ok (.invokestatic 56, 3) := by decide +kernel
theorem dX6_holes_22 : decode cX6_holes 22 = .ok (.ifCond .ne 11, 3) := by decide +kernel
theorem dX6_holes_25 : decode cX6_holes 25 = .ok (.aload_n 0, 1) := by decide +kernel
theorem dX6_holes_26 : decode cX6_holes 26 = .ok (.iconst 0, 1) := by decide +kernel
theorem dX6_holes_27 : decode cX6_holes 27 = .ok (.bipush (-10), 2) := by decide +kernel
theorem dX6_holes_29 : decode cX6_holes 29 = .ok (.invokevirtual 52, 3) := by decide +kernel
theorem dX6_holes_32 : decode cX6_holes 32 = .ok (.ireturn, 1) := by decide +kernel
theorem dX6_holes_33 : decode cX6_holes 33 = .ok (.aload_n 0, 1) := by decide +kernel
theorem dX6_holes_34 : decode cX6_holes 34 = .ok (.iload_n 1, 1) := by decide +kernel
theorem dX6_holes_35 : decode cX6_holes 35 = .ok (.iconst 3, 1) := by decide +kernel
theorem dX6_holes_36 : decode cX6_holes 36 = .ok (.invokevirtual 86, 3) := by decide +kernel
theorem dX6_holes_39 : decode cX6_holes 39 = .ok (.istore_n 3, 1) := by decide +kernel
theorem dX6_holes_40 : decode cX6_holes 40 = .ok (.aload_n 0, 1) := by decide +kernel
theorem dX6_holes_41 : decode cX6_holes 41 = .ok (.getfield 7, 3) := by decide +kernel
theorem dX6_holes_44 : decode cX6_holes 44 = .ok (.bipush 8, 2) := by decide +kernel
theorem dX6_holes_46 : decode cX6_holes 46 = .ok (.iconst 4, 1) := by decide +kernel
theorem dX6_holes_47 : decode cX6_holes 47 = .ok (.iload_n 1, 1) := by decide +kernel
theorem dX6_holes_48 : decode cX6_holes 48 = .ok (.imul, 1) := by decide +kernel
theorem dX6_holes_49 : decode cX6_holes 49 = .ok (.iadd, 1) := by decide +kernel
theorem dX6_holes_50 : decode cX6_holes 50 = .ok (.iconst 3, 1) := by decide +kernel
theorem dX6_holes_51 : decode cX6_holes 51 = .ok (.iadd, 1) := by decide +kernel
theorem dX6_holes_52 : decode cX6_holes 52 = .ok (.iload_n 2, 1) := by decide +kernel
theorem dX6_holes_53 : decode cX6_holes 53 = .ok (.iastore, 1) := by decide +kernel
theorem dX6_holes_54 : decode cX6_holes 54 = .ok (.iload_n 3, 1) := by decide +kernel
theorem dX6_holes_55 : decode cX6_holes 55 = .ok (.ireturn, 1) := by decide +kernel
set_option maxRecDepth 20000 in
theorem ggX6_bites_X6_ofBolt : GoodIn wsX6_bites wsX6_ofBolt := goodIn_r _ [5, 6, 11, 12, 13, 14, 15, 16, 17, 18, 19, 20, 21, 22, 23, 24, 25, 26, 27, 28, 29, 30] (by decide +kernel) (by decide +kernel)
set_option maxRecDepth 20000 in
theorem gX6_bites_X6_ofBolt : GoodIn wsX6_bites (wsV RX6 86 RX6 yX6_ofBolt wsX6_ofBolt) := goodIn_app (goodIn_of _ (by decide +kernel)) ggX6_bites_X6_ofBolt
set_option maxRecDepth 20000 in
theorem ggX6_bites_X6_wants : GoodIn wsX6_bites wsX6_wants := goodIn_r _ [10, 6, 1, 2, 3, 4, 5, 11, 12, 13, 14, 15, 16, 17, 18, 19, 20, 21, 22, 23, 24, 25, 26, 27, 28, 29, 30] (by decide +kernel) (by decide +kernel)
set_option maxRecDepth 20000 in
theorem gX6_bites_X6_wants : GoodIn wsX6_bites (wsV RX6 96 RX6 yX6_wants wsX6_wants) := goodIn_app (goodIn_of _ (by decide +kernel)) ggX6_bites_X6_wants
theorem dX6_bites_0 : decode cX6_bites 0 = .ok (.aload_n 0, 1) := by decide +kernel
theorem dX6_bites_1 : decode cX6_bites 1 = .ok (.iload_n 1, 1) := by decide +kernel
theorem dX6_bites_2 : decode cX6_bites 2 = .ok (.iload_n 2, 1) := by decide +kernel
theorem dX6_bites_3 : decode cX6_bites 3 = .ok (.aload_n 0, 1) := by decide +kernel
theorem dX6_bites_4 : decode cX6_bites 4 = .ok (.iload_n 2, 1) := by decide +kernel
theorem dX6_bites_5 : decode cX6_bites 5 = .ok (.iconst 1, 1) := by decide +kernel
theorem dX6_bites_6 : decode cX6_bites 6 = .ok (.invokevirtual 86, 3) := by decide +kernel
theorem dX6_bites_9 : decode cX6_bites 9 = .ok (.invokevirtual 96, 3) := by decide +kernel
theorem dX6_bites_12 : decode cX6_bites 12 = .ok (.iconst 3, 1) := by decide +kernel
theorem dX6_bites_13 : decode cX6_bites 13 = .ok (.idiv, 1) := by decide +kernel
theorem dX6_bites_14 : decode cX6_bites 14 = .ok (.ireturn, 1) := by decide +kernel
set_option maxRecDepth 20000 in
theorem ggX6_finds_X6_bites : GoodIn wsX6_finds wsX6_bites := goodIn_r _ [8, 9, 10, 11, 7, 12, 3, 13, 14, 15, 16, 17, 18, 19, 20, 21, 22, 23, 24, 25, 26, 27, 28, 29, 30, 31, 32, 33, 34, 35, 36] (by decide +kernel) (by decide +kernel)
set_option maxRecDepth 20000 in
theorem gX6_finds_X6_bites : GoodIn wsX6_finds (wsV RX6 226 RX6 yX6_bites wsX6_bites) := goodIn_app (goodIn_of _ (by decide +kernel)) ggX6_finds_X6_bites
set_option maxRecDepth 20000 in
theorem ggX6_finds_X6_ofBolt : GoodIn wsX6_finds wsX6_ofBolt := goodIn_r _ [12, 3, 17, 18, 19, 20, 21, 22, 23, 24, 25, 26, 27, 28, 29, 30, 31, 32, 33, 34, 35, 36] (by decide +kernel) (by decide +kernel)
set_option maxRecDepth 20000 in
theorem gX6_finds_X6_ofBolt : GoodIn wsX6_finds (wsV RX6 86 RX6 yX6_ofBolt wsX6_ofBolt) := goodIn_app (goodIn_of _ (by decide +kernel)) ggX6_finds_X6_ofBolt
theorem dX6_finds_0 : decode cX6_finds 0 = .ok (.aload_n 0, 1) := by decide +kernel
theorem dX6_finds_1 : decode cX6_finds 1 = .ok (.iconst 0, 1) := by decide +kernel
theorem dX6_finds_2 : decode cX6_finds 2 = .ok (.putfield 220, 3) := by decide +kernel
theorem dX6_finds_5 : decode cX6_finds 5 = .ok (.aload_n 0, 1) := by decide +kernel
theorem dX6_finds_6 : decode cX6_finds 6 = .ok (.iconst (-1), 1) := by decide +kernel
theorem dX6_finds_7 : decode cX6_finds 7 = .ok (.putfield 223, 3) := by decide +kernel
theorem dX6_finds_10 : decode cX6_finds 10 = .ok (.iconst 0, 1) := by decide +kernel
theorem dX6_finds_11 : decode cX6_finds 11 = .ok (.istore_n 1, 1) := by decide +kernel
theorem dX6_finds_12 : decode cX6_finds 12 = .ok (.iload_n 1, 1) := by decide +kernel
theorem dX6_finds_13 : decode cX6_finds 13 = .ok (.iconst 1, 1) := by decide +kernel
theorem dX6_finds_14 : decode cX6_finds 14 = .ok (.aload_n 0, 1) := by decide +kernel
theorem dX6_finds_15 : decode cX6_finds 15 = .ok (.getfield 7, 3) := by decide +kernel
theorem dX6_finds_18 : decode cX6_finds 18 = .ok (.iconst 1, 1) := by decide +kernel
theorem dX6_finds_19 : decode cX6_finds 19 = .ok (.iaload, 1) := by decide +kernel
theorem dX6_finds_20 : decode cX6_finds 20 = .ok (.ishl, 1) := by decide +kernel
theorem dX6_finds_21 : decode cX6_finds 21 = .ok (.if_icmp .ge 143, 3) := by decide +kernel
theorem dX6_finds_24 : decode cX6_finds 24 = .ok (.iconst 1, 1) := by decide +kernel
theorem dX6_finds_25 : decode cX6_finds 25 = .ok (.istore_n 2, 1) := by decide +kernel
theorem dX6_finds_26 : decode cX6_finds 26 = .ok (.iconst 0, 1) := by decide +kernel
theorem dX6_finds_27 : decode cX6_finds 27 = .ok (.istore_n 3, 1) := by decide +kernel
theorem dX6_finds_28 : decode cX6_finds 28 = .ok (.iload_n 3, 1) := by decide +kernel
theorem dX6_finds_29 : decode cX6_finds 29 = .ok (.aload_n 0, 1) := by decide +kernel
theorem dX6_finds_30 : decode cX6_finds 30 = .ok (.getfield 7, 3) := by decide +kernel
theorem dX6_finds_33 : decode cX6_finds 33 = .ok (.iconst 0, 1) := by decide +kernel
theorem dX6_finds_34 : decode cX6_finds 34 = .ok (.iaload, 1) := by decide +kernel
theorem dX6_finds_35 : decode cX6_finds 35 = .ok (.if_icmp .ge 89, 3) := by decide +kernel
theorem dX6_finds_38 : decode cX6_finds 38 = .ok (.iconst 0, 1) := by decide +kernel
theorem dX6_finds_39 : decode cX6_finds 39 = .ok (.istore 4, 2) := by decide +kernel
theorem dX6_finds_41 : decode cX6_finds 41 = .ok (.iconst 0, 1) := by decide +kernel
theorem dX6_finds_42 : decode cX6_finds 42 = .ok (.istore 5, 2) := by decide +kernel
theorem dX6_finds_44 : decode cX6_finds 44 = .ok (.iload 5, 2) := by decide +kernel
theorem dX6_finds_46 : decode cX6_finds 46 = .ok (.aload_n 0, 1) := by decide +kernel
theorem dX6_finds_47 : decode cX6_finds 47 = .ok (.getfield 7, 3) := by decide +kernel
theorem dX6_finds_50 : decode cX6_finds 50 = .ok (.iconst 1, 1) := by decide +kernel
theorem dX6_finds_51 : decode cX6_finds 51 = .ok (.iaload, 1) := by decide +kernel
theorem dX6_finds_52 : decode cX6_finds 52 = .ok (.if_icmp .ge 35, 3) := by decide +kernel
theorem dX6_finds_55 : decode cX6_finds 55 = .ok (.iload 4, 2) := by decide +kernel
theorem dX6_finds_57 : decode cX6_finds 57 = .ok (.iload_n 1, 1) := by decide +kernel
theorem dX6_finds_58 : decode cX6_finds 58 = .ok (.iload 5, 2) := by decide +kernel
theorem dX6_finds_60 : decode cX6_finds 60 = .ok (.ishr, 1) := by decide +kernel
theorem dX6_finds_61 : decode cX6_finds 61 = .ok (.iconst 1, 1) := by decide +kernel
theorem dX6_finds_62 : decode cX6_finds 62 = .ok (.iand, 1) := by decide +kernel
theorem dX6_finds_63 : decode cX6_finds 63 = .ok (.iconst 1, 1) := by decide +kernel
theorem dX6_finds_64 : decode cX6_finds 64 = .ok (.if_icmp .ne 13, 3) := by decide +kernel
theorem dX6_finds_67 : decode cX6_finds 67 = .ok (.aload_n 0, 1) := by decide +kernel
theorem dX6_finds_68 : decode cX6_finds 68 = .ok (.iload 5, 2) := by decide +kernel
theorem dX6_finds_70 : decode cX6_finds 70 = .ok (.iload_n 3, 1) := by decide +kernel
theorem dX6_finds_71 : decode cX6_finds 71 = .ok (.invokevirtual 226, 3) := by decide +kernel
theorem dX6_finds_74 : decode cX6_finds 74 = .ok (.goto 4, 3) := by decide +kernel
theorem dX6_finds_77 : decode cX6_finds 77 = .ok (.iconst 0, 1) := by decide +kernel
theorem dX6_finds_78 : decode cX6_finds 78 = .ok (.iadd, 1) := by decide +kernel
theorem dX6_finds_79 : decode cX6_finds 79 = .ok (.istore 4, 2) := by decide +kernel
theorem dX6_finds_81 : decode cX6_finds 81 = .ok (.iinc 5 1, 3) := by decide +kernel
theorem dX6_finds_84 : decode cX6_finds 84 = .ok (.goto (-40), 3) := by decide +kernel
theorem dX6_finds_87 : decode cX6_finds 87 = .ok (.iload_n 2, 1) := by decide +kernel
theorem dX6_finds_88 : decode cX6_finds 88 = .ok (.ifCond .eq 28, 3) := by decide +kernel
theorem dX6_finds_91 : decode cX6_finds 91 = .ok (.aload_n 0, 1) := by decide +kernel
theorem dX6_finds_92 : decode cX6_finds 92 = .ok (.iload_n 3, 1) := by decide +kernel
theorem dX6_finds_93 : decode cX6_finds 93 = .ok (.iconst 3, 1) := by decide +kernel
theorem dX6_finds_94 : decode cX6_finds 94 = .ok (.invokevirtual 86, 3) := by decide +kernel
theorem dX6_finds_97 : decode cX6_finds 97 = .ok (.iconst (-1), 1) := by decide +kernel
theorem dX6_finds_98 : decode cX6_finds 98 = .ok (.if_icmp .eq 14, 3) := by decide +kernel
theorem dX6_finds_101 : decode cX6_finds 101 = .ok (.iload 4, 2) := by decide +kernel
theorem dX6_finds_103 : decode cX6_finds 103 = .ok (.aload_n 0, 1) := by decide +kernel
theorem dX6_finds_104 : decode cX6_finds 104 = .ok (.iload_n 3, 1) := by decide +kernel
theorem dX6_finds_105 : decode cX6_finds 105 = .ok (.iconst 3, 1) := by decide +kernel
theorem dX6_finds_106 : decode cX6_finds 106 = .ok (.invokevirtual 86, 3) := by decide +kernel
theorem dX6_finds_109 : decode cX6_finds 109 = .ok (.if_icmp .ne 7, 3) := by decide +kernel
theorem dX6_finds_112 : decode cX6_finds 112 = .ok (.iconst 1, 1) := by decide +kernel
theorem dX6_finds_113 : decode cX6_finds 113 = .ok (.goto 4, 3) := by decide +kernel
theorem dX6_finds_116 : decode cX6_finds 116 = .ok (.iconst 0, 1) := by decide +kernel
theorem dX6_finds_117 : decode cX6_finds 117 = .ok (.istore_n 2, 1) := by decide +kernel
theorem dX6_finds_118 : decode cX6_finds 118 = .ok (.iinc 3 1, 3) := by decide +kernel
theorem dX6_finds_121 : decode cX6_finds 121 = .ok (.goto (-93), 3) := by decide +kernel
theorem dX6_finds_124 : decode cX6_finds 124 = .ok (.iload_n 2, 1) := by decide +kernel
theorem dX6_finds_125 : decode cX6_finds 125 = .ok (.ifCond .eq 33, 3) := by decide +kernel
theorem dX6_finds_128 : decode cX6_finds 128 = .ok (.aload_n 0, 1) := by decide +kernel
theorem dX6_finds_129 : decode cX6_finds 129 = .ok (.dup, 1) := by decide +kernel
theorem dX6_finds_130 : decode cX6_finds 130 = .ok (.getfield 220, 3) := by decide +kernel
theorem dX6_finds_133 : decode cX6_finds 133 = .ok (.iconst 1, 1) := by decide +kernel
theorem dX6_finds_134 : decode cX6_finds 134 = .ok (.iadd, 1) := by decide +kernel
theorem dX6_finds_135 : decode cX6_finds 135 = .ok (.putfield 220, 3) := by decide +kernel
theorem dX6_finds_138 : decode cX6_finds 138 = .ok (.aload_n 0, 1) := by decide +kernel
theorem dX6_finds_139 : decode cX6_finds 139 = .ok (.aload_n 0, 1) := by decide +kernel
theorem dX6_finds_140 : decode cX6_finds 140 = .ok (.getfield 223, 3) := by decide +kernel
theorem dX6_finds_143 : decode cX6_finds 143 = .ok (.iconst (-1), 1) := by decide +kernel
theorem dX6_finds_144 : decode cX6_finds 144 = .ok (.if_icmp .ne 7, 3) := by decide +kernel
theorem dX6_finds_147 : decode cX6_finds 147 = .ok (.iload_n 1, 1) := by decide +kernel
theorem dX6_finds_148 : decode cX6_finds 148 = .ok (.goto 7, 3) := by decide +kernel
theorem dX6_finds_151 : decode cX6_finds 151 = .ok (.aload_n 0, 1) := by decide +kernel
theorem dX6_finds_152 : decode cX6_finds 152 = .ok (.getfield 223, 3) := by decide +kernel
theorem dX6_finds_155 : decode cX6_finds 155 = .ok (.putfield 223, 3) := by decide +kernel
theorem dX6_finds_158 : decode cX6_finds 158 = .ok (.iinc 1 1, 3) := by decide +kernel
theorem dX6_finds_161 : decode cX6_finds 161 = .ok (.goto (-149), 3) := by decide +kernel
theorem dX6_finds_164 : decode cX6_finds 164 = .ok (.return_, 1) := by decide +kernel
set_option maxRecDepth 20000 in
theorem ggX6_byWhom_X6_in : GoodIn wsX6_byWhom wsX6_in := goodIn_r _ [6] (by decide +kernel) (by decide +kernel)
set_option maxRecDepth 20000 in
theorem gX6_byWhom_X6_in : GoodIn wsX6_byWhom (va_wsS RX6 56 yX6_in wsX6_in) := goodIn_app (goodIn_of _ (by decide +kernel)) ggX6_byWhom_X6_in
set_option maxRecDepth 20000 in
theorem ggX6_byWhom_X6_bad : GoodIn wsX6_byWhom wsX6_bad := goodIn_r _ [10, 11, 12, 13, 5, 14, 15, 16, 38, 39, 40, 41, 42, 43, 44, 45, 46, 47, 48, 49, 50, 51, 52, 53, 54, 55, 56, 57] (by decide +kernel) (by decide +kernel)
set_option maxRecDepth 20000 in
theorem gX6_byWhom_X6_bad : GoodIn wsX6_byWhom (wsV RX6 71 RX6 yX6_bad wsX6_bad) := goodIn_app (goodIn_of _ (by decide +kernel)) ggX6_byWhom_X6_bad
set_option maxRecDepth 20000 in
theorem ggX6_byWhom_X6_finds : GoodIn wsX6_byWhom wsX6_finds := goodIn_r _ [20, 1, 2, 21, 22, 23, 24, 5, 25, 26, 27, 28, 29, 30, 31, 32, 33, 38, 39, 40, 41, 42, 43, 44, 45, 46, 47, 48, 49, 50, 51, 52, 53, 54, 55, 56, 57] (by decide +kernel) (by decide +kernel)
set_option maxRecDepth 20000 in
theorem gX6_byWhom_X6_finds : GoodIn wsX6_byWhom (wsV RX6 229 RX6 yX6_finds wsX6_finds) := goodIn_app (goodIn_of _ (by decide +kernel)) ggX6_byWhom_X6_finds
set_option maxRecDepth 20000 in
theorem ggX6_byWhom_X6_no : GoodIn wsX6_byWhom wsX6_no := goodIn_r _ [37, 11, 12, 13, 5, 14, 15, 16, 38, 39, 40, 41, 42, 43, 44, 45, 46, 47, 48, 49, 50, 51, 52, 53, 54, 55, 56, 57] (by decide +kernel) (by decide +kernel)
set_option maxRecDepth 20000 in
theorem gX6_byWhom_X6_no : GoodIn wsX6_byWhom (wsV RX6 192 RX6 yX6_no wsX6_no) := goodIn_app (goodIn_of _ (by decide +kernel)) ggX6_byWhom_X6_no
theorem dX6_byWhom_0 : decode cX6_byWhom 0 = .ok (.iload_n 1, 1) := by decide +kernel
theorem dX6_byWhom_1 : decode cX6_byWhom 1 = .ok (.i2l, 1) := by decide +kernel
theorem dX6_byWhom_2 : decode cX6_byWhom 2 = .ok (.lconst 0, 1) := by decide +kernel
theorem dX6_byWhom_3 : decode cX6_byWhom 3 = .ok (.lconst 1, 1) := by decide +kernel
theorem dX6_byWhom_4 : decode cX6_byWhom 4 = .ok (.invokestatic 56, 3) := by decide +kernel
theorem dX6_byWhom_7 : decode cX6_byWhom 7 = .ok (.ifCond .ne 8, 3) := by decide +kernel
theorem dX6_byWhom_10 : decode cX6_byWhom 10 = .ok (.aload_n 0, 1) := by decide +kernel
theorem dX6_byWhom_11 : decode cX6_byWhom 11 = .ok (.invokevirtual 71, 3) := by decide +kernel
theorem dX6_byWhom_14 : decode cX6_byWhom 14 = .ok (.ireturn, 1) := by decide +kernel
theorem dX6_byWhom_15 : decode cX6_byWhom 15 = .ok (.aload_n 0, 1) := by decide +kernel
theorem dX6_byWhom_16 : decode cX6_byWhom 16 = .ok (.invokevirtual 229, 3) := by decide +kernel
theorem dX6_byWhom_19 : decode cX6_byWhom 19 = .ok (.iload_n 1, 1) := by decide +kernel
theorem dX6_byWhom_20 : decode cX6_byWhom 20 = .ok (.ifCond .ne 10, 3) := by decide +kernel
theorem dX6_byWhom_23 : decode cX6_byWhom 23 = .ok (.aload_n 0, 1) := by decide +kernel
theorem dX6_byWhom_24 : decode cX6_byWhom 24 = .ok (.getfield 220, 3) := by decide +kernel
theorem dX6_byWhom_27 : decode cX6_byWhom 27 = .ok (.goto 21, 3) := by decide +kernel
theorem dX6_byWhom_30 : decode cX6_byWhom 30 = .ok (.aload_n 0, 1) := by decide +kernel
theorem dX6_byWhom_31 : decode cX6_byWhom 31 = .ok (.getfield 220, 3) := by decide +kernel
theorem dX6_byWhom_34 : decode cX6_byWhom 34 = .ok (.ifCond .ne 10, 3) := by decide +kernel
theorem dX6_byWhom_37 : decode cX6_byWhom 37 = .ok (.aload_n 0, 1) := by decide +kernel
theorem dX6_byWhom_38 : decode cX6_byWhom 38 = .ok (.invokevirtual 192, 3) := by decide +kernel
theorem dX6_byWhom_41 : decode cX6_byWhom 41 = .ok (.goto 7, 3) := by decide +kernel
theorem dX6_byWhom_44 : decode cX6_byWhom 44 = .ok (.aload_n 0, 1) := by decide +kernel
theorem dX6_byWhom_45 : decode cX6_byWhom 45 = .ok (.getfield 223, 3) := by decide +kernel
theorem dX6_byWhom_48 : decode cX6_byWhom 48 = .ok (.ireturn, 1) := by decide +kernel
set_option maxRecDepth 20000 in
theorem ggX6_mouth_X6_isBolt : GoodIn wsX6_mouth wsX6_isBolt := goodIn_r _ [8, 2, 9, 10, 7, 11, 42, 43, 44, 45, 46, 47, 48, 49, 50, 51, 52, 53, 54, 55, 56, 57, 58, 59, 60, 61] (by decide +kernel) (by decide +kernel)
set_option maxRecDepth 20000 in
theorem gX6_mouth_X6_isBolt : GoodIn wsX6_mouth (wsV RX6 93 RX6 yX6_isBolt wsX6_isBolt) := goodIn_app (goodIn_of _ (by decide +kernel)) ggX6_mouth_X6_isBolt
set_option maxRecDepth 20000 in
theorem ggX6_mouth_X6_ofBolt : GoodIn wsX6_mouth wsX6_ofBolt := goodIn_r _ [15, 2, 42, 43, 44, 45, 46, 47, 48, 49, 50, 51, 52, 53, 54, 55, 56, 57, 58, 59, 60, 61] (by decide +kernel) (by decide +kernel)
set_option maxRecDepth 20000 in
theorem gX6_mouth_X6_ofBolt : GoodIn wsX6_mouth (wsV RX6 86 RX6 yX6_ofBolt wsX6_ofBolt) := goodIn_app (goodIn_of _ (by decide +kernel)) ggX6_mouth_X6_ofBolt
set_option maxRecDepth 20000 in
theorem ggX6_mouth_X6_bad : GoodIn wsX6_mouth wsX6_bad := goodIn_r _ [19, 20, 21, 22, 7, 23, 24, 25, 42, 43, 44, 45, 46, 47, 48, 49, 50, 51, 52, 53, 54, 55, 56, 57, 58, 59, 60, 61] (by decide +kernel) (by decide +kernel)
set_option maxRecDepth 20000 in
theorem gX6_mouth_X6_bad : GoodIn wsX6_mouth (wsV RX6 71 RX6 yX6_bad wsX6_bad) := goodIn_app (goodIn_of _ (by decide +kernel)) ggX6_mouth_X6_bad
set_option maxRecDepth 20000 in
theorem ggX6_mouth_X6_finds : GoodIn wsX6_mouth wsX6_finds := goodIn_r _ [29, 1, 3, 2, 30, 31, 32, 7, 33, 12, 13, 14, 15, 34, 35, 36, 37, 42, 43, 44, 45, 46, 47, 48, 49, 50, 51, 52, 53, 54, 55, 56, 57, 58, 59, 60, 61] (by decide +kernel) (by decide +kernel)
set_option maxRecDepth 20000 in
theorem gX6_mouth_X6_finds : GoodIn wsX6_mouth (wsV RX6 229 RX6 yX6_finds wsX6_finds) := goodIn_app (goodIn_of _ (by decide +kernel)) ggX6_mouth_X6_finds
set_option maxRecDepth 20000 in
theorem ggX6_mouth_X6_no : GoodIn wsX6_mouth wsX6_no := goodIn_r _ [41, 20, 21, 22, 7, 23, 24, 25, 42, 43, 44, 45, 46, 47, 48, 49, 50, 51, 52, 53, 54, 55, 56, 57, 58, 59, 60, 61] (by decide +kernel) (by decide +kernel)
set_option maxRecDepth 20000 in
theorem gX6_mouth_X6_no : GoodIn wsX6_mouth (wsV RX6 192 RX6 yX6_no wsX6_no) := goodIn_app (goodIn_of _ (by decide +kernel)) ggX6_mouth_X6_no
set_option maxRecDepth 20000 in
theorem ggX6_mouth_X6_bites : GoodIn wsX6_mouth wsX6_bites := goodIn_r _ [33, 12, 13, 14, 7, 15, 2, 34, 35, 36, 37, 42, 43, 44, 45, 46, 47, 48, 49, 50, 51, 52, 53, 54, 55, 56, 57, 58, 59, 60, 61] (by decide +kernel) (by decide +kernel)
set_option maxRecDepth 20000 in
theorem gX6_mouth_X6_bites : GoodIn wsX6_mouth (wsV RX6 226 RX6 yX6_bites wsX6_bites) := goodIn_app (goodIn_of _ (by decide +kernel)) ggX6_mouth_X6_bites
theorem dX6_mouth_0 : decode cX6_mouth 0 = .ok (.aload_n 0, 1) := by decide +kernel
theorem dX6_mouth_1 : decode cX6_mouth 1 = .ok (.iload_n 1, 1) := by decide +kernel
theorem dX6_mouth_2 : decode cX6_mouth 2 = .ok (.invokevirtual 93, 3) := by decide +kernel
theorem dX6_mouth_5 : decode cX6_mouth 5 = .ok (.ifCond .eq 17, 3) := by decide +kernel
theorem dX6_mouth_8 : decode cX6_mouth 8 = .ok (.iload_n 2, 1) := by decide +kernel
theorem dX6_mouth_9 : decode cX6_mouth 9 = .ok (.ifCond .lt 13, 3) := by decide +kernel
theorem dX6_mouth_12 : decode cX6_mouth 12 = .ok (.aload_n 0, 1) := by decide +kernel
theorem dX6_mouth_13 : decode cX6_mouth 13 = .ok (.iload_n 1, 1) := by decide +kernel
theorem dX6_mouth_14 : decode cX6_mouth 14 = .ok (.iconst 3, 1) := by decide +kernel
theorem dX6_mouth_15 : decode cX6_mouth 15 = .ok (.invokevirtual 86, 3) := by decide +kernel
theorem dX6_mouth_18 : decode cX6_mouth 18 = .ok (.iconst (-1), 1) := by decide +kernel
theorem dX6_mouth_19 : decode cX6_mouth 19 = .ok (.if_icmp .ne 8, 3) := by decide +kernel
theorem dX6_mouth_22 : decode cX6_mouth 22 = .ok (.aload_n 0, 1) := by decide +kernel
theorem dX6_mouth_23 : decode cX6_mouth 23 = .ok (.invokevirtual 71, 3) := by decide +kernel
theorem dX6_mouth_26 : decode cX6_mouth 26 = .ok (.ireturn, 1) := by decide +kernel
theorem dX6_mouth_27 : decode cX6_mouth 27 = .ok (.aload_n 0, 1) := by decide +kernel
theorem dX6_mouth_28 : decode cX6_mouth 28 = .ok (.invokevirtual 229, 3) := by decide +kernel
theorem dX6_mouth_31 : decode cX6_mouth 31 = .ok (.aload_n 0, 1) := by decide +kernel
theorem dX6_mouth_32 : decode cX6_mouth 32 = .ok (.getfield 220, 3) := by decide +kernel
theorem dX6_mouth_35 : decode cX6_mouth 35 = .ok (.ifCond .ne 8, 3) := by decide +kernel
theorem dX6_mouth_38 : decode cX6_mouth 38 = .ok (.aload_n 0, 1) := by decide +kernel
theorem dX6_mouth_39 : decode cX6_mouth 39 = .ok (.invokevirtual 192, 3) := by decide +kernel
theorem dX6_mouth_42 : decode cX6_mouth 42 = .ok (.ireturn, 1) := by decide +kernel
theorem dX6_mouth_43 : decode cX6_mouth 43 = .ok (.iload_n 2, 1) := by decide +kernel
theorem dX6_mouth_44 : decode cX6_mouth 44 = .ok (.istore_n 3, 1) := by decide +kernel
theorem dX6_mouth_45 : decode cX6_mouth 45 = .ok (.iconst 0, 1) := by decide +kernel
theorem dX6_mouth_46 : decode cX6_mouth 46 = .ok (.istore 4, 2) := by decide +kernel
theorem dX6_mouth_48 : decode cX6_mouth 48 = .ok (.iload 4, 2) := by decide +kernel
theorem dX6_mouth_50 : decode cX6_mouth 50 = .ok (.aload_n 0, 1) := by decide +kernel
theorem dX6_mouth_51 : decode cX6_mouth 51 = .ok (.getfield 7, 3) := by decide +kernel
theorem dX6_mouth_54 : decode cX6_mouth 54 = .ok (.iconst 1, 1) := by decide +kernel
theorem dX6_mouth_55 : decode cX6_mouth 55 = .ok (.iaload, 1) := by decide +kernel
theorem dX6_mouth_56 : decode cX6_mouth 56 = .ok (.if_icmp .ge 49, 3) := by decide +kernel
theorem dX6_mouth_59 : decode cX6_mouth 59 = .ok (.aload_n 0, 1) := by decide +kernel
theorem dX6_mouth_60 : decode cX6_mouth 60 = .ok (.getfield 223, 3) := by decide +kernel
theorem dX6_mouth_63 : decode cX6_mouth 63 = .ok (.iload 4, 2) := by decide +kernel
theorem dX6_mouth_65 : decode cX6_mouth 65 = .ok (.ishr, 1) := by decide +kernel
theorem dX6_mouth_66 : decode cX6_mouth 66 = .ok (.iconst 1, 1) := by decide +kernel
theorem dX6_mouth_67 : decode cX6_mouth 67 = .ok (.iand, 1) := by decide +kernel
theorem dX6_mouth_68 : decode cX6_mouth 68 = .ok (.iconst 1, 1) := by decide +kernel
theorem dX6_mouth_69 : decode cX6_mouth 69 = .ok (.if_icmp .ne 13, 3) := by decide +kernel
theorem dX6_mouth_72 : decode cX6_mouth 72 = .ok (.aload_n 0, 1) := by decide +kernel
theorem dX6_mouth_73 : decode cX6_mouth 73 = .ok (.iload 4, 2) := by decide +kernel
theorem dX6_mouth_75 : decode cX6_mouth 75 = .ok (.iload_n 1, 1) := by decide +kernel
theorem dX6_mouth_76 : decode cX6_mouth 76 = .ok (.invokevirtual 226, 3) := by decide +kernel
theorem dX6_mouth_79 : decode cX6_mouth 79 = .ok (.goto 4, 3) := by decide +kernel
theorem dX6_mouth_82 : decode cX6_mouth 82 = .ok (.iconst 0, 1) := by decide +kernel
theorem dX6_mouth_83 : decode cX6_mouth 83 = .ok (.istore 5, 2) := by decide +kernel
theorem dX6_mouth_85 : decode cX6_mouth 85 = .ok (.iload_n 3, 1) := by decide +kernel
theorem dX6_mouth_86 : decode cX6_mouth 86 = .ok (.iload 5, 2) := by decide +kernel
theorem dX6_mouth_88 : decode cX6_mouth 88 = .ok (.if_icmp .ge 6, 3) := by decide +kernel
theorem dX6_mouth_91 : decode cX6_mouth 91 = .ok (.iload 4, 2) := by decide +kernel
theorem dX6_mouth_93 : decode cX6_mouth 93 = .ok (.ireturn, 1) := by decide +kernel
theorem dX6_mouth_94 : decode cX6_mouth 94 = .ok (.iload_n 3, 1) := by decide +kernel
theorem dX6_mouth_95 : decode cX6_mouth 95 = .ok (.iload 5, 2) := by decide +kernel
theorem dX6_mouth_97 : decode cX6_mouth 97 = .ok (.isub, 1) := by decide +kernel
theorem dX6_mouth_98 : decode cX6_mouth 98 = .ok (.istore_n 3, 1) := by decide +kernel
theorem dX6_mouth_99 : decode cX6_mouth 99 = .ok (.iinc 4 1, 3) := by decide +kernel
theorem dX6_mouth_102 : decode cX6_mouth 102 = .ok (.goto (-54), 3) := by decide +kernel
theorem dX6_mouth_105 : decode cX6_mouth 105 = .ok (.iconst (-1), 1) := by decide +kernel
theorem dX6_mouth_106 : decode cX6_mouth 106 = .ok (.ireturn, 1) := by decide +kernel
set_option maxRecDepth 20000 in
theorem ggX6_cedar_X6_in : GoodIn wsX6_cedar wsX6_in := goodIn_r _ [6] (by decide +kernel) (by decide +kernel)
set_option maxRecDepth 20000 in
theorem gX6_cedar_X6_in : GoodIn wsX6_cedar (va_wsS RX6 56 yX6_in wsX6_in) := goodIn_app (goodIn_of _ (by decide +kernel)) ggX6_cedar_X6_in
set_option maxRecDepth 20000 in
theorem ggX6_cedar_X6_bad : GoodIn wsX6_cedar wsX6_bad := goodIn_r _ [10, 11, 12, 13, 5, 14, 15, 16, 25, 26, 27, 28, 29, 30, 31, 32, 33, 34, 35, 36, 37, 38, 39, 40, 41, 42, 43, 44] (by decide +kernel) (by decide +kernel)
set_option maxRecDepth 20000 in
theorem gX6_cedar_X6_bad : GoodIn wsX6_cedar (wsV RX6 71 RX6 yX6_bad wsX6_bad) := goodIn_app (goodIn_of _ (by decide +kernel)) ggX6_cedar_X6_bad
set_option maxRecDepth 20000 in
theorem ggX6_cedar_X6_ofBolt : GoodIn wsX6_cedar wsX6_ofBolt := goodIn_r _ [20, 2, 25, 26, 27, 28, 29, 30, 31, 32, 33, 34, 35, 36, 37, 38, 39, 40, 41, 42, 43, 44] (by decide +kernel) (by decide +kernel)
set_option maxRecDepth 20000 in
theorem gX6_cedar_X6_ofBolt : GoodIn wsX6_cedar (wsV RX6 86 RX6 yX6_ofBolt wsX6_ofBolt) := goodIn_app (goodIn_of _ (by decide +kernel)) ggX6_cedar_X6_ofBolt
set_option maxRecDepth 20000 in
theorem ggX6_cedar_X6_wants : GoodIn wsX6_cedar wsX6_wants := goodIn_r _ [24, 2, 17, 18, 19, 5, 20, 25, 26, 27, 28, 29, 30, 31, 32, 33, 34, 35, 36, 37, 38, 39, 40, 41, 42, 43, 44] (by decide +kernel) (by decide +kernel)
set_option maxRecDepth 20000 in
theorem gX6_cedar_X6_wants : GoodIn wsX6_cedar (wsV RX6 96 RX6 yX6_wants wsX6_wants) := goodIn_app (goodIn_of _ (by decide +kernel)) ggX6_cedar_X6_wants
theorem dX6_cedar_0 : decode cX6_cedar 0 = .ok (.iload_n 1, 1) := by decide +kernel
theorem dX6_cedar_1 : decode cX6_cedar 1 = .ok (.i2l, 1) := by decide +kernel
theorem dX6_cedar_2 : decode cX6_cedar 2 = .ok (.lconst 0, 1) := by decide +kernel
theorem dX6_cedar_3 : decode cX6_cedar 3 = .ok (.ldc2_w 232, 3) := by decide +kernel
theorem dX6_cedar_6 : decode cX6_cedar 6 = .ok (.invokestatic 56, 3) := by decide +kernel
theorem dX6_cedar_9 : decode cX6_cedar 9 = .ok (.ifCond .ne 8, 3) := by decide +kernel
theorem dX6_cedar_12 : decode cX6_cedar 12 = .ok (.aload_n 0, 1) := by decide +kernel
theorem dX6_cedar_13 : decode cX6_cedar 13 = .ok (.invokevirtual 71, 3) := by decide +kernel
theorem dX6_cedar_16 : decode cX6_cedar 16 = .ok (.ireturn, 1) := by decide +kernel
theorem dX6_cedar_17 : decode cX6_cedar 17 = .ok (.iconst 0, 1) := by decide +kernel
theorem dX6_cedar_18 : decode cX6_cedar 18 = .ok (.istore_n 2, 1) := by decide +kernel
theorem dX6_cedar_19 : decode cX6_cedar 19 = .ok (.iconst 0, 1) := by decide +kernel
theorem dX6_cedar_20 : decode cX6_cedar 20 = .ok (.istore_n 3, 1) := by decide +kernel
theorem dX6_cedar_21 : decode cX6_cedar 21 = .ok (.iload_n 3, 1) := by decide +kernel
theorem dX6_cedar_22 : decode cX6_cedar 22 = .ok (.aload_n 0, 1) := by decide +kernel
theorem dX6_cedar_23 : decode cX6_cedar 23 = .ok (.getfield 7, 3) := by decide +kernel
theorem dX6_cedar_26 : decode cX6_cedar 26 = .ok (.iconst 0, 1) := by decide +kernel
theorem dX6_cedar_27 : decode cX6_cedar 27 = .ok (.iaload, 1) := by decide +kernel
theorem dX6_cedar_28 : decode cX6_cedar 28 = .ok (.if_icmp .ge 115, 3) := by decide +kernel
theorem dX6_cedar_31 : decode cX6_cedar 31 = .ok (.iconst 0, 1) := by decide +kernel
theorem dX6_cedar_32 : decode cX6_cedar 32 = .ok (.istore 4, 2) := by decide +kernel
theorem dX6_cedar_34 : decode cX6_cedar 34 = .ok (.iconst 0, 1) := by decide +kernel
theorem dX6_cedar_35 : decode cX6_cedar 35 = .ok (.istore 5, 2) := by decide +kernel
theorem dX6_cedar_37 : decode cX6_cedar 37 = .ok (.iconst 0, 1) := by decide +kernel
theorem dX6_cedar_38 : decode cX6_cedar 38 = .ok (.istore 6, 2) := by decide +kernel
theorem dX6_cedar_40 : decode cX6_cedar 40 = .ok (.iload 6, 2) := by decide +kernel
theorem dX6_cedar_42 : decode cX6_cedar 42 = .ok (.aload_n 0, 1) := by decide +kernel
theorem dX6_cedar_43 : decode cX6_cedar 43 = .ok (.getfield 7, 3) := by decide +kernel
theorem dX6_cedar_46 : decode cX6_cedar 46 = .ok (.iconst 1, 1) := by decide +kernel
theorem dX6_cedar_47 : decode cX6_cedar 47 = .ok (.iaload, 1) := by decide +kernel
theorem dX6_cedar_48 : decode cX6_cedar 48 = .ok (.if_icmp .ge 62, 3) := by decide +kernel
theorem dX6_cedar_51 : decode cX6_cedar 51 = .ok (.iload 4, 2) := by decide +kernel
theorem dX6_cedar_53 : decode cX6_cedar 53 = .ok (.ifCond .ne 20, 3) := by decide +kernel
theorem dX6_cedar_56 : decode cX6_cedar 56 = .ok (.aload_n 0, 1) := by decide +kernel
theorem dX6_cedar_57 : decode cX6_cedar 57 = .ok (.iload 6, 2) := by decide +kernel
theorem dX6_cedar_59 : decode cX6_cedar 59 = .ok (.iload_n 3, 1) := by decide +kernel
theorem dX6_cedar_60 : decode cX6_cedar 60 = .ok (.aload_n 0, 1) := by decide +kernel
theorem dX6_cedar_61 : decode cX6_cedar 61 = .ok (.iload_n 3, 1) := by decide +kernel
theorem dX6_cedar_62 : decode cX6_cedar 62 = .ok (.iconst 1, 1) := by decide +kernel
theorem dX6_cedar_63 : decode cX6_cedar 63 = .ok (.invokevirtual 86, 3) := by decide +kernel
theorem dX6_cedar_66 : decode cX6_cedar 66 = .ok (.invokevirtual 96, 3) := by decide +kernel
theorem dX6_cedar_69 : decode cX6_cedar 69 = .ok (.iload_n 1, 1) := by decide +kernel
theorem dX6_cedar_70 : decode cX6_cedar 70 = .ok (.if_icmp .le 7, 3) := by decide +kernel
theorem dX6_cedar_73 : decode cX6_cedar 73 = .ok (.iconst 1, 1) := by decide +kernel
theorem dX6_cedar_74 : decode cX6_cedar 74 = .ok (.goto 4, 3) := by decide +kernel
theorem dX6_cedar_77 : decode cX6_cedar 77 = .ok (.iconst 0, 1) := by decide +kernel
theorem dX6_cedar_78 : decode cX6_cedar 78 = .ok (.istore 4, 2) := by decide +kernel
theorem dX6_cedar_80 : decode cX6_cedar 80 = .ok (.iload 5, 2) := by decide +kernel
theorem dX6_cedar_82 : decode cX6_cedar 82 = .ok (.ifCond .ne 15, 3) := by decide +kernel
theorem dX6_cedar_85 : decode cX6_cedar 85 = .ok (.aload_n 0, 1) := by decide +kernel
theorem dX6_cedar_86 : decode cX6_cedar 86 = .ok (.iload 6, 2) := by decide +kernel
theorem dX6_cedar_88 : decode cX6_cedar 88 = .ok (.iload_n 3, 1) := by decide +kernel
theorem dX6_cedar_89 : decode cX6_cedar 89 = .ok (.iconst 3, 1) := by decide +kernel
theorem dX6_cedar_90 : decode cX6_cedar 90 = .ok (.invokevirtual 96, 3) := by decide +kernel
theorem dX6_cedar_93 : decode cX6_cedar 93 = .ok (.iload_n 1, 1) := by decide +kernel
theorem dX6_cedar_94 : decode cX6_cedar 94 = .ok (.if_icmp .le 7, 3) := by decide +kernel
theorem dX6_cedar_97 : decode cX6_cedar 97 = .ok (.iconst 1, 1) := by decide +kernel
theorem dX6_cedar_98 : decode cX6_cedar 98 = .ok (.goto 4, 3) := by decide +kernel
theorem dX6_cedar_101 : decode cX6_cedar 101 = .ok (.iconst 0, 1) := by decide +kernel
theorem dX6_cedar_102 : decode cX6_cedar 102 = .ok (.istore 5, 2) := by decide +kernel
theorem dX6_cedar_104 : decode cX6_cedar 104 = .ok (.iinc 6 1, 3) := by decide +kernel
theorem dX6_cedar_107 : decode cX6_cedar 107 = .ok (.goto (-67), 3) := by decide +kernel
theorem dX6_cedar_110 : decode cX6_cedar 110 = .ok (.iload 4, 2) := by decide +kernel
theorem dX6_cedar_112 : decode cX6_cedar 112 = .ok (.ifCond .eq 10, 3) := by decide +kernel
theorem dX6_cedar_115 : decode cX6_cedar 115 = .ok (.iload 5, 2) := by decide +kernel
theorem dX6_cedar_117 : decode cX6_cedar 117 = .ok (.ifCond .eq 5, 3) := by decide +kernel
theorem dX6_cedar_120 : decode cX6_cedar 120 = .ok (.iconst (-1), 1) := by decide +kernel
theorem dX6_cedar_121 : decode cX6_cedar 121 = .ok (.ireturn, 1) := by decide +kernel
theorem dX6_cedar_122 : decode cX6_cedar 122 = .ok (.iload_n 2, 1) := by decide +kernel
theorem dX6_cedar_123 : decode cX6_cedar 123 = .ok (.iload 4, 2) := by decide +kernel
theorem dX6_cedar_125 : decode cX6_cedar 125 = .ok (.ifCond .eq 9, 3) := by decide +kernel
theorem dX6_cedar_128 : decode cX6_cedar 128 = .ok (.iconst 1, 1) := by decide +kernel
theorem dX6_cedar_129 : decode cX6_cedar 129 = .ok (.iload_n 3, 1) := by decide +kernel
theorem dX6_cedar_130 : decode cX6_cedar 130 = .ok (.ishl, 1) := by decide +kernel
theorem dX6_cedar_131 : decode cX6_cedar 131 = .ok (.goto 4, 3) := by decide +kernel
theorem dX6_cedar_134 : decode cX6_cedar 134 = .ok (.iconst 0, 1) := by decide +kernel
theorem dX6_cedar_135 : decode cX6_cedar 135 = .ok (.ior, 1) := by decide +kernel
theorem dX6_cedar_136 : decode cX6_cedar 136 = .ok (.istore_n 2, 1) := by decide +kernel
theorem dX6_cedar_137 : decode cX6_cedar 137 = .ok (.iinc 3 1, 3) := by decide +kernel
theorem dX6_cedar_140 : decode cX6_cedar 140 = .ok (.goto (-119), 3) := by decide +kernel
theorem dX6_cedar_143 : decode cX6_cedar 143 = .ok (.iload_n 2, 1) := by decide +kernel
theorem dX6_cedar_144 : decode cX6_cedar 144 = .ok (.ireturn, 1) := by decide +kernel
set_option maxRecDepth 20000 in
theorem ggX6_oracle_X6_in : GoodIn wsX6_oracle wsX6_in := goodIn_r _ [5] (by decide +kernel) (by decide +kernel)
set_option maxRecDepth 20000 in
theorem gX6_oracle_X6_in : GoodIn wsX6_oracle (va_wsS RX6 56 yX6_in wsX6_in) := goodIn_app (goodIn_of _ (by decide +kernel)) ggX6_oracle_X6_in
set_option maxRecDepth 20000 in
theorem ggX6_oracle_X6_bad : GoodIn wsX6_oracle wsX6_bad := goodIn_r _ [9, 10, 11, 12, 4, 13, 14, 15, 25, 26, 27, 28, 29, 30, 31, 32, 33, 34, 35, 36, 37, 38, 39, 40, 41, 42, 43, 44] (by decide +kernel) (by decide +kernel)
set_option maxRecDepth 20000 in
theorem gX6_oracle_X6_bad : GoodIn wsX6_oracle (wsV RX6 71 RX6 yX6_bad wsX6_bad) := goodIn_app (goodIn_of _ (by decide +kernel)) ggX6_oracle_X6_bad
set_option maxRecDepth 20000 in
theorem ggX6_oracle_X6_keeps : GoodIn wsX6_oracle wsX6_keeps := goodIn_r _ [19, 20, 21, 22, 23, 4, 24, 25, 26, 27, 28, 29, 30, 31, 32, 33, 34, 35, 36, 37, 38, 39, 40, 41, 42, 43, 44] (by decide +kernel) (by decide +kernel)
set_option maxRecDepth 20000 in
theorem gX6_oracle_X6_keeps : GoodIn wsX6_oracle (wsV RX6 197 RX6 yX6_keeps wsX6_keeps) := goodIn_app (goodIn_of _ (by decide +kernel)) ggX6_oracle_X6_keeps
theorem dX6_oracle_0 : decode cX6_oracle 0 = .ok (.iload_n 1, 1) := by decide +kernel
theorem dX6_oracle_1 : decode cX6_oracle 1 = .ok (.i2l, 1) := by decide +kernel
theorem dX6_oracle_2 : decode cX6_oracle 2 = .ok (.lconst 1, 1) := by decide +kernel
theorem dX6_oracle_3 : decode cX6_oracle 3 = .ok (.ldc2_w 234, 3) := by decide +kernel
theorem dX6_oracle_6 : decode cX6_oracle 6 = .ok (.invokestatic 56, 3) := by decide +kernel
theorem dX6_oracle_9 : decode cX6_oracle 9 = .ok (.ifCond .eq 14, 3) := by decide +kernel
theorem dX6_oracle_12 : decode cX6_oracle 12 = .ok (.iload_n 2, 1) := by decide +kernel
theorem dX6_oracle_13 : decode cX6_oracle 13 = .ok (.i2l, 1) := by decide +kernel
theorem dX6_oracle_14 : decode cX6_oracle 14 = .ok (.lconst 0, 1) := by decide +kernel
theorem dX6_oracle_15 : decode cX6_oracle 15 = .ok (.iload_n 1, 1) := by decide +kernel
theorem dX6_oracle_16 : decode cX6_oracle 16 = .ok (.i2l, 1) := by decide +kernel
theorem dX6_oracle_17 : decode cX6_oracle 17 = .ok (.invokestatic 56, 3) := by decide +kernel
theorem dX6_oracle_20 : decode cX6_oracle 20 = .ok (.ifCond .ne 8, 3) := by decide +kernel
theorem dX6_oracle_23 : decode cX6_oracle 23 = .ok (.aload_n 0, 1) := by decide +kernel
theorem dX6_oracle_24 : decode cX6_oracle 24 = .ok (.invokevirtual 71, 3) := by decide +kernel
theorem dX6_oracle_27 : decode cX6_oracle 27 = .ok (.ireturn, 1) := by decide +kernel
theorem dX6_oracle_28 : decode cX6_oracle 28 = .ok (.lconst 0, 1) := by decide +kernel
theorem dX6_oracle_29 : decode cX6_oracle 29 = .ok (.lstore_n 3, 1) := by decide +kernel
theorem dX6_oracle_30 : decode cX6_oracle 30 = .ok (.lconst 1, 1) := by decide +kernel
theorem dX6_oracle_31 : decode cX6_oracle 31 = .ok (.lstore 5, 2) := by decide +kernel
theorem dX6_oracle_33 : decode cX6_oracle 33 = .ok (.iconst 0, 1) := by decide +kernel
theorem dX6_oracle_34 : decode cX6_oracle 34 = .ok (.istore 7, 2) := by decide +kernel
theorem dX6_oracle_36 : decode cX6_oracle 36 = .ok (.iload 7, 2) := by decide +kernel
theorem dX6_oracle_38 : decode cX6_oracle 38 = .ok (.iload_n 1, 1) := by decide +kernel
theorem dX6_oracle_39 : decode cX6_oracle 39 = .ok (.if_icmp .gt 40, 3) := by decide +kernel
theorem dX6_oracle_42 : decode cX6_oracle 42 = .ok (.lload_n 3, 1) := by decide +kernel
theorem dX6_oracle_43 : decode cX6_oracle 43 = .ok (.iload 7, 2) := by decide +kernel
theorem dX6_oracle_45 : decode cX6_oracle 45 = .ok (.iload_n 2, 1) := by decide +kernel
theorem dX6_oracle_46 : decode cX6_oracle 46 = .ok (.if_icmp .lt 8, 3) := by decide +kernel
theorem dX6_oracle_49 : decode cX6_oracle 49 = .ok (.lload 5, 2) := by decide +kernel
theorem dX6_oracle_51 : decode cX6_oracle 51 = .ok (.goto 4, 3) := by decide +kernel
theorem dX6_oracle_54 : decode cX6_oracle 54 = .ok (.lconst 0, 1) := by decide +kernel
theorem dX6_oracle_55 : decode cX6_oracle 55 = .ok (.ladd, 1) := by decide +kernel
theorem dX6_oracle_56 : decode cX6_oracle 56 = .ok (.lstore_n 3, 1) := by decide +kernel
theorem dX6_oracle_57 : decode cX6_oracle 57 = .ok (.lload 5, 2) := by decide +kernel
theorem dX6_oracle_59 : decode cX6_oracle 59 = .ok (.iload_n 1, 1) := by decide +kernel
theorem dX6_oracle_60 : decode cX6_oracle 60 = .ok (.iload 7, 2) := by decide +kernel
theorem dX6_oracle_62 : decode cX6_oracle 62 = .ok (.isub, 1) := by decide +kernel
theorem dX6_oracle_63 : decode cX6_oracle 63 = .ok (.i2l, 1) := by decide +kernel
theorem dX6_oracle_64 : decode cX6_oracle 64 = .ok (.lmul, 1) := by decide +kernel
theorem dX6_oracle_65 : decode cX6_oracle 65 = .ok (.iload 7, 2) := by decide +kernel
theorem dX6_oracle_67 : decode cX6_oracle 67 = .ok (.iconst 1, 1) := by decide +kernel
theorem dX6_oracle_68 : decode cX6_oracle 68 = .ok (.iadd, 1) := by decide +kernel
theorem dX6_oracle_69 : decode cX6_oracle 69 = .ok (.i2l, 1) := by decide +kernel
theorem dX6_oracle_70 : decode cX6_oracle 70 = .ok (.ldiv, 1) := by decide +kernel
theorem dX6_oracle_71 : decode cX6_oracle 71 = .ok (.lstore 5, 2) := by decide +kernel
theorem dX6_oracle_73 : decode cX6_oracle 73 = .ok (.iinc 7 1, 3) := by decide +kernel
theorem dX6_oracle_76 : decode cX6_oracle 76 = .ok (.goto (-40), 3) := by decide +kernel
theorem dX6_oracle_79 : decode cX6_oracle 79 = .ok (.aload_n 0, 1) := by decide +kernel
theorem dX6_oracle_80 : decode cX6_oracle 80 = .ok (.lload_n 3, 1) := by decide +kernel
theorem dX6_oracle_81 : decode cX6_oracle 81 = .ok (.lconst 1, 1) := by decide +kernel
theorem dX6_oracle_82 : decode cX6_oracle 82 = .ok (.iload_n 1, 1) := by decide +kernel
theorem dX6_oracle_83 : decode cX6_oracle 83 = .ok (.lshl, 1) := by decide +kernel
theorem dX6_oracle_84 : decode cX6_oracle 84 = .ok (.invokevirtual 197, 3) := by decide +kernel
theorem dX6_oracle_87 : decode cX6_oracle 87 = .ok (.ireturn, 1) := by decide +kernel
set_option maxRecDepth 20000 in
theorem ggX6_tailor_X6_in : GoodIn wsX6_tailor wsX6_in := goodIn_r _ [7] (by decide +kernel) (by decide +kernel)
set_option maxRecDepth 20000 in
theorem gX6_tailor_X6_in : GoodIn wsX6_tailor (va_wsS RX6 56 yX6_in wsX6_in) := goodIn_app (goodIn_of _ (by decide +kernel)) ggX6_tailor_X6_in
set_option maxRecDepth 20000 in
theorem ggX6_tailor_X6_bad : GoodIn wsX6_tailor wsX6_bad := goodIn_r _ [11, 12, 13, 14, 6, 15, 16, 17, 22, 23, 24, 25, 26, 27, 28, 29, 30, 31, 32, 33, 34, 35, 36, 37, 38, 39, 40, 41] (by decide +kernel) (by decide +kernel)
set_option maxRecDepth 20000 in
theorem gX6_tailor_X6_bad : GoodIn wsX6_tailor (wsV RX6 71 RX6 yX6_bad wsX6_bad) := goodIn_app (goodIn_of _ (by decide +kernel)) ggX6_tailor_X6_bad
set_option maxRecDepth 20000 in
theorem ggX6_tailor_X6_ofBolt : GoodIn wsX6_tailor wsX6_ofBolt := goodIn_r _ [21, 3, 22, 23, 24, 25, 26, 27, 28, 29, 30, 31, 32, 33, 34, 35, 36, 37, 38, 39, 40, 41] (by decide +kernel) (by decide +kernel)
set_option maxRecDepth 20000 in
theorem gX6_tailor_X6_ofBolt : GoodIn wsX6_tailor (wsV RX6 86 RX6 yX6_ofBolt wsX6_ofBolt) := goodIn_app (goodIn_of _ (by decide +kernel)) ggX6_tailor_X6_ofBolt
theorem dX6_tailor_0 : decode cX6_tailor 0 = .ok (.iload_n 1, 1) := by decide +kernel
theorem dX6_tailor_1 : decode cX6_tailor 1 = .ok (.i2l, 1) := by decide +kernel
theorem dX6_tailor_2 : decode cX6_tailor 2 = .ok (.lconst 0, 1) := by decide +kernel
theorem dX6_tailor_3 : decode cX6_tailor 3 = .ok (.ldc2_w 236, 3) := by decide +kernel
theorem dX6_tailor_6 : decode cX6_tailor 6 = .ok (.invokestatic 56, 3) := by decide +kernel
theorem dX6_tailor_9 : decode cX6_tailor 9 = .ok (.ifCond .eq 15, 3) := by decide +kernel
theorem dX6_tailor_12 : decode cX6_tailor 12 = .ok (.iload_n 2, 1) := by decide +kernel
theorem dX6_tailor_13 : decode cX6_tailor 13 = .ok (.i2l, 1) := by decide +kernel
theorem dX6_tailor_14 : decode cX6_tailor 14 = .ok (.lconst 1, 1) := by decide +kernel
theorem dX6_tailor_15 : decode cX6_tailor 15 = .ok (.ldc2_w 80, 3) := by decide +kernel
theorem dX6_tailor_18 : decode cX6_tailor 18 = .ok (.invokestatic 56, 3) := by decide +kernel
theorem dX6_tailor_21 : decode cX6_tailor 21 = .ok (.ifCond .ne 8, 3) := by decide +kernel
theorem dX6_tailor_24 : decode cX6_tailor 24 = .ok (.aload_n 0, 1) := by decide +kernel
theorem dX6_tailor_25 : decode cX6_tailor 25 = .ok (.invokevirtual 71, 3) := by decide +kernel
theorem dX6_tailor_28 : decode cX6_tailor 28 = .ok (.ireturn, 1) := by decide +kernel
theorem dX6_tailor_29 : decode cX6_tailor 29 = .ok (.iconst 0, 1) := by decide +kernel
theorem dX6_tailor_30 : decode cX6_tailor 30 = .ok (.istore_n 3, 1) := by decide +kernel
theorem dX6_tailor_31 : decode cX6_tailor 31 = .ok (.iconst 0, 1) := by decide +kernel
theorem dX6_tailor_32 : decode cX6_tailor 32 = .ok (.istore 4, 2) := by decide +kernel
theorem dX6_tailor_34 : decode cX6_tailor 34 = .ok (.iconst 0, 1) := by decide +kernel
theorem dX6_tailor_35 : decode cX6_tailor 35 = .ok (.istore 5, 2) := by decide +kernel
theorem dX6_tailor_37 : decode cX6_tailor 37 = .ok (.iload_n 3, 1) := by decide +kernel
theorem dX6_tailor_38 : decode cX6_tailor 38 = .ok (.iload_n 2, 1) := by decide +kernel
theorem dX6_tailor_39 : decode cX6_tailor 39 = .ok (.imul, 1) := by decide +kernel
theorem dX6_tailor_40 : decode cX6_tailor 40 = .ok (.iload_n 1, 1) := by decide +kernel
theorem dX6_tailor_41 : decode cX6_tailor 41 = .ok (.if_icmp .ge 133, 3) := by decide +kernel
theorem dX6_tailor_44 : decode cX6_tailor 44 = .ok (.iconst (-1), 1) := by decide +kernel
theorem dX6_tailor_45 : decode cX6_tailor 45 = .ok (.istore 6, 2) := by decide +kernel
theorem dX6_tailor_47 : decode cX6_tailor 47 = .ok (.iconst 0, 1) := by decide +kernel
theorem dX6_tailor_48 : decode cX6_tailor 48 = .ok (.istore 7, 2) := by decide +kernel
theorem dX6_tailor_50 : decode cX6_tailor 50 = .ok (.iload 7, 2) := by decide +kernel
theorem dX6_tailor_52 : decode cX6_tailor 52 = .ok (.aload_n 0, 1) := by decide +kernel
theorem dX6_tailor_53 : decode cX6_tailor 53 = .ok (.getfield 7, 3) := by decide +kernel
theorem dX6_tailor_56 : decode cX6_tailor 56 = .ok (.iconst 0, 1) := by decide +kernel
theorem dX6_tailor_57 : decode cX6_tailor 57 = .ok (.iaload, 1) := by decide +kernel
theorem dX6_tailor_58 : decode cX6_tailor 58 = .ok (.if_icmp .ge 83, 3) := by decide +kernel
theorem dX6_tailor_61 : decode cX6_tailor 61 = .ok (.iload 4, 2) := by decide +kernel
theorem dX6_tailor_63 : decode cX6_tailor 63 = .ok (.iload 7, 2) := by decide +kernel
theorem dX6_tailor_65 : decode cX6_tailor 65 = .ok (.ishr, 1) := by decide +kernel
theorem dX6_tailor_66 : decode cX6_tailor 66 = .ok (.iconst 1, 1) := by decide +kernel
theorem dX6_tailor_67 : decode cX6_tailor 67 = .ok (.iand, 1) := by decide +kernel
theorem dX6_tailor_68 : decode cX6_tailor 68 = .ok (.ifCond .ne 18, 3) := by decide +kernel
theorem dX6_tailor_71 : decode cX6_tailor 71 = .ok (.aload_n 0, 1) := by decide +kernel
theorem dX6_tailor_72 : decode cX6_tailor 72 = .ok (.iload 7, 2) := by decide +kernel
theorem dX6_tailor_74 : decode cX6_tailor 74 = .ok (.iconst 3, 1) := by decide +kernel
theorem dX6_tailor_75 : decode cX6_tailor 75 = .ok (.invokevirtual 86, 3) := by decide +kernel
theorem dX6_tailor_78 : decode cX6_tailor 78 = .ok (.iconst (-1), 1) := by decide +kernel
theorem dX6_tailor_79 : decode cX6_tailor 79 = .ok (.if_icmp .eq 7, 3) := by decide +kernel
theorem dX6_tailor_82 : decode cX6_tailor 82 = .ok (.iconst 1, 1) := by decide +kernel
theorem dX6_tailor_83 : decode cX6_tailor 83 = .ok (.goto 4, 3) := by decide +kernel
theorem dX6_tailor_86 : decode cX6_tailor 86 = .ok (.iconst 0, 1) := by decide +kernel
theorem dX6_tailor_87 : decode cX6_tailor 87 = .ok (.istore 8, 2) := by decide +kernel
theorem dX6_tailor_89 : decode cX6_tailor 89 = .ok (.iload 8, 2) := by decide +kernel
theorem dX6_tailor_91 : decode cX6_tailor 91 = .ok (.ifCond .eq 40, 3) := by decide +kernel
theorem dX6_tailor_94 : decode cX6_tailor 94 = .ok (.iload 6, 2) := by decide +kernel
theorem dX6_tailor_96 : decode cX6_tailor 96 = .ok (.iconst (-1), 1) := by decide +kernel
theorem dX6_tailor_97 : decode cX6_tailor 97 = .ok (.if_icmp .eq 29, 3) := by decide +kernel
theorem dX6_tailor_100 : decode cX6_tailor 100 = .ok (.aload_n 0, 1) := by decide +kernel
theorem dX6_tailor_101 : decode cX6_tailor 101 = .ok (.iload 7, 2) := by decide +kernel
theorem dX6_tailor_103 : decode cX6_tailor 103 = .ok (.iconst 3, 1) := by decide +kernel
theorem dX6_tailor_104 : decode cX6_tailor 104 = .ok (.invokevirtual 86, 3) := by decide +kernel
theorem dX6_tailor_107 : decode cX6_tailor 107 = .ok (.aload_n 0, 1) := by decide +kernel
theorem dX6_tailor_108 : decode cX6_tailor 108 = .ok (.iload 6, 2) := by decide +kernel
theorem dX6_tailor_110 : decode cX6_tailor 110 = .ok (.ifCond .ge 7, 3) := by decide +kernel
theorem dX6_tailor_113 : decode cX6_tailor 113 = .ok (.iconst 0, 1) := by decide +kernel
theorem dX6_tailor_114 : decode cX6_tailor 114 = .ok (.goto 5, 3) := by decide +kernel
theorem dX6_tailor_117 : decode cX6_tailor 117 = .ok (.iload 6, 2) := by decide +kernel
theorem dX6_tailor_119 : decode cX6_tailor 119 = .ok (.iconst 3, 1) := by decide +kernel
theorem dX6_tailor_120 : decode cX6_tailor 120 = .ok (.invokevirtual 86, 3) := by decide +kernel
theorem dX6_tailor_123 : decode cX6_tailor 123 = .ok (.if_icmp .le 8, 3) := by decide +kernel
theorem dX6_tailor_126 : decode cX6_tailor 126 = .ok (.iload 7, 2) := by decide +kernel
theorem dX6_tailor_128 : decode cX6_tailor 128 = .ok (.goto 5, 3) := by decide +kernel
theorem dX6_tailor_131 : decode cX6_tailor 131 = .ok (.iload 6, 2) := by decide +kernel
theorem dX6_tailor_133 : decode cX6_tailor 133 = .ok (.istore 6, 2) := by decide +kernel
theorem dX6_tailor_135 : decode cX6_tailor 135 = .ok (.iinc 7 1, 3) := by decide +kernel
theorem dX6_tailor_138 : decode cX6_tailor 138 = .ok (.goto (-88), 3) := by decide +kernel
theorem dX6_tailor_141 : decode cX6_tailor 141 = .ok (.iload 6, 2) := by decide +kernel
theorem dX6_tailor_143 : decode cX6_tailor 143 = .ok (.iconst (-1), 1) := by decide +kernel
theorem dX6_tailor_144 : decode cX6_tailor 144 = .ok (.if_icmp .ne 5, 3) := by decide +kernel
theorem dX6_tailor_147 : decode cX6_tailor 147 = .ok (.iconst (-1), 1) := by decide +kernel
theorem dX6_tailor_148 : decode cX6_tailor 148 = .ok (.ireturn, 1) := by decide +kernel
theorem dX6_tailor_149 : decode cX6_tailor 149 = .ok (.iload 4, 2) := by decide +kernel
theorem dX6_tailor_151 : decode cX6_tailor 151 = .ok (.iconst 1, 1) := by decide +kernel
theorem dX6_tailor_152 : decode cX6_tailor 152 = .ok (.iload 6, 2) := by decide +kernel
theorem dX6_tailor_154 : decode cX6_tailor 154 = .ok (.ishl, 1) := by decide +kernel
theorem dX6_tailor_155 : decode cX6_tailor 155 = .ok (.ior, 1) := by decide +kernel
theorem dX6_tailor_156 : decode cX6_tailor 156 = .ok (.istore 4, 2) := by decide +kernel
theorem dX6_tailor_158 : decode cX6_tailor 158 = .ok (.iload_n 3, 1) := by decide +kernel
theorem dX6_tailor_159 : decode cX6_tailor 159 = .ok (.aload_n 0, 1) := by decide +kernel
theorem dX6_tailor_160 : decode cX6_tailor 160 = .ok (.iload 6, 2) := by decide +kernel
theorem dX6_tailor_162 : decode cX6_tailor 162 = .ok (.iconst 3, 1) := by decide +kernel
theorem dX6_tailor_163 : decode cX6_tailor 163 = .ok (.invokevirtual 86, 3) := by decide +kernel
theorem dX6_tailor_166 : decode cX6_tailor 166 = .ok (.iadd, 1) := by decide +kernel
theorem dX6_tailor_167 : decode cX6_tailor 167 = .ok (.istore_n 3, 1) := by decide +kernel
theorem dX6_tailor_168 : decode cX6_tailor 168 = .ok (.iinc 5 1, 3) := by decide +kernel
theorem dX6_tailor_171 : decode cX6_tailor 171 = .ok (.goto (-134), 3) := by decide +kernel
theorem dX6_tailor_174 : decode cX6_tailor 174 = .ok (.iload 5, 2) := by decide +kernel
theorem dX6_tailor_176 : decode cX6_tailor 176 = .ok (.ireturn, 1) := by decide +kernel
set_option maxRecDepth 20000 in
theorem ggX6_part_X6_bad : GoodIn wsX6_part wsX6_bad := goodIn_r _ [7, 8, 9, 10, 6, 11, 12, 13, 14, 15, 16, 17, 18, 19, 20, 21, 22, 23, 24, 25, 26, 27, 28, 29, 30, 31, 32, 33] (by decide +kernel) (by decide +kernel)
set_option maxRecDepth 20000 in
theorem gX6_part_X6_bad : GoodIn wsX6_part (wsV RX6 71 RX6 yX6_bad wsX6_bad) := goodIn_app (goodIn_of _ (by decide +kernel)) ggX6_part_X6_bad
theorem dX6_part_0 : decode cX6_part 0 = .ok (.iload_n 1, 1) := by decide +kernel
theorem dX6_part_1 : decode cX6_part 1 = .ok (.ifCond .ne 10, 3) := by decide +kernel
theorem dX6_part_4 : decode cX6_part 4 = .ok (.aload_n 0, 1) := by decide +kernel
theorem dX6_part_5 : decode cX6_part 5 = .ok (.getfield 64, 3) := by decide +kernel
theorem dX6_part_8 : decode cX6_part 8 = .ok (.goto 20, 3) := by decide +kernel
theorem dX6_part_11 : decode cX6_part 11 = .ok (.iload_n 1, 1) := by decide +kernel
theorem dX6_part_12 : decode cX6_part 12 = .ok (.iconst 1, 1) := by decide +kernel
theorem dX6_part_13 : decode cX6_part 13 = .ok (.if_icmp .ne 10, 3) := by decide +kernel
theorem dX6_part_16 : decode cX6_part 16 = .ok (.aload_n 0, 1) := by decide +kernel
theorem dX6_part_17 : decode cX6_part 17 = .ok (.getfield 41, 3) := by decide +kernel
theorem dX6_part_20 : decode cX6_part 20 = .ok (.goto 8, 3) := by decide +kernel
theorem dX6_part_23 : decode cX6_part 23 = .ok (.aload_n 0, 1) := by decide +kernel
theorem dX6_part_24 : decode cX6_part 24 = .ok (.invokevirtual 71, 3) := by decide +kernel
theorem dX6_part_27 : decode cX6_part 27 = .ok (.i2l, 1) := by decide +kernel
theorem dX6_part_28 : decode cX6_part 28 = .ok (.lreturn, 1) := by decide +kernel
set_option maxRecDepth 20000 in
theorem ggX6_image_X6_in : GoodIn wsX6_image wsX6_in := goodIn_r _ [7] (by decide +kernel) (by decide +kernel)
set_option maxRecDepth 20000 in
theorem gX6_image_X6_in : GoodIn wsX6_image (va_wsS RX6 56 yX6_in wsX6_in) := goodIn_app (goodIn_of _ (by decide +kernel)) ggX6_image_X6_in
set_option maxRecDepth 20000 in
theorem ggX6_image_X6_bad : GoodIn wsX6_image wsX6_bad := goodIn_r _ [11, 12, 13, 14, 6, 15, 16, 17, 18, 19, 20, 21, 22, 23, 24, 25, 26, 27, 28, 29, 30, 31, 32, 33, 34, 35, 36, 37] (by decide +kernel) (by decide +kernel)
set_option maxRecDepth 20000 in
theorem gX6_image_X6_bad : GoodIn wsX6_image (wsV RX6 71 RX6 yX6_bad wsX6_bad) := goodIn_app (goodIn_of _ (by decide +kernel)) ggX6_image_X6_bad
theorem dX6_image_0 : decode cX6_image 0 = .ok (.iload_n 1, 1) := by decide +kernel
theorem dX6_image_1 : decode cX6_image 1 = .ok (.i2l, 1) := by decide +kernel
theorem dX6_image_2 : decode cX6_image 2 = .ok (.lconst 0, 1) := by decide +kernel
theorem dX6_image_3 : decode cX6_image 3 = .ok (.lconst 1, 1) := by decide +kernel
theorem dX6_image_4 : decode cX6_image 4 = .ok (.invokestatic 56, 3) := by decide +kernel
theorem dX6_image_7 : decode cX6_image 7 = .ok (.ifCond .ne 8, 3) := by decide +kernel
theorem dX6_image_10 : decode cX6_image 10 = .ok (.aload_n 0, 1) := by decide +kernel
theorem dX6_image_11 : decode cX6_image 11 = .ok (.invokevirtual 71, 3) := by decide +kernel
theorem dX6_image_14 : decode cX6_image 14 = .ok (.ireturn, 1) := by decide +kernel
theorem dX6_image_15 : decode cX6_image 15 = .ok (.iconst 0, 1) := by decide +kernel
theorem dX6_image_16 : decode cX6_image 16 = .ok (.istore_n 2, 1) := by decide +kernel
theorem dX6_image_17 : decode cX6_image 17 = .ok (.iload_n 2, 1) := by decide +kernel
theorem dX6_image_18 : decode cX6_image 18 = .ok (.bipush 80, 2) := by decide +kernel
theorem dX6_image_20 : decode cX6_image 20 = .ok (.if_icmp .ge 26, 3) := by decide +kernel
theorem dX6_image_23 : decode cX6_image 23 = .ok (.aload_n 0, 1) := by decide +kernel
theorem dX6_image_24 : decode cX6_image 24 = .ok (.getfield 13, 3) := by decide +kernel
theorem dX6_image_27 : decode cX6_image 27 = .ok (.bipush 80, 2) := by decide +kernel
theorem dX6_image_29 : decode cX6_image 29 = .ok (.iload_n 1, 1) := by decide +kernel
theorem dX6_image_30 : decode cX6_image 30 = .ok (.imul, 1) := by decide +kernel
theorem dX6_image_31 : decode cX6_image 31 = .ok (.iload_n 2, 1) := by decide +kernel
theorem dX6_image_32 : decode cX6_image 32 = .ok (.iadd, 1) := by decide +kernel
theorem dX6_image_33 : decode cX6_image 33 = .ok (.aload_n 0, 1) := by decide +kernel
theorem dX6_image_34 : decode cX6_image 34 = .ok (.getfield 7, 3) := by decide +kernel
theorem dX6_image_37 : decode cX6_image 37 = .ok (.iload_n 2, 1) := by decide +kernel
theorem dX6_image_38 : decode cX6_image 38 = .ok (.iaload, 1) := by decide +kernel
theorem dX6_image_39 : decode cX6_image 39 = .ok (.iastore, 1) := by decide +kernel
theorem dX6_image_40 : decode cX6_image 40 = .ok (.iinc 2 1, 3) := by decide +kernel
theorem dX6_image_43 : decode cX6_image 43 = .ok (.goto (-26), 3) := by decide +kernel
theorem dX6_image_46 : decode cX6_image 46 = .ok (.aload_n 0, 1) := by decide +kernel
theorem dX6_image_47 : decode cX6_image 47 = .ok (.getfield 16, 3) := by decide +kernel
theorem dX6_image_50 : decode cX6_image 50 = .ok (.iload_n 1, 1) := by decide +kernel
theorem dX6_image_51 : decode cX6_image 51 = .ok (.iconst 1, 1) := by decide +kernel
theorem dX6_image_52 : decode cX6_image 52 = .ok (.bastore, 1) := by decide +kernel
theorem dX6_image_53 : decode cX6_image 53 = .ok (.iconst 1, 1) := by decide +kernel
theorem dX6_image_54 : decode cX6_image 54 = .ok (.ireturn, 1) := by decide +kernel
set_option maxRecDepth 20000 in
theorem ggX6_from_X6_in : GoodIn wsX6_from wsX6_in := goodIn_r _ [7] (by decide +kernel) (by decide +kernel)
set_option maxRecDepth 20000 in
theorem gX6_from_X6_in : GoodIn wsX6_from (va_wsS RX6 56 yX6_in wsX6_in) := goodIn_app (goodIn_of _ (by decide +kernel)) ggX6_from_X6_in
set_option maxRecDepth 20000 in
theorem ggX6_from_X6_bad : GoodIn wsX6_from wsX6_bad := goodIn_r _ [11, 12, 13, 14, 6, 15, 16, 17, 22, 23, 24, 25, 26, 27, 28, 29, 30, 31, 32, 33, 34, 35, 36, 37, 38, 39, 40, 41] (by decide +kernel) (by decide +kernel)
set_option maxRecDepth 20000 in
theorem gX6_from_X6_bad : GoodIn wsX6_from (wsV RX6 71 RX6 yX6_bad wsX6_bad) := goodIn_app (goodIn_of _ (by decide +kernel)) ggX6_from_X6_bad
set_option maxRecDepth 20000 in
theorem ggX6_from_X6_no : GoodIn wsX6_from wsX6_no := goodIn_r _ [21, 12, 13, 14, 6, 15, 16, 17, 22, 23, 24, 25, 26, 27, 28, 29, 30, 31, 32, 33, 34, 35, 36, 37, 38, 39, 40, 41] (by decide +kernel) (by decide +kernel)
set_option maxRecDepth 20000 in
theorem gX6_from_X6_no : GoodIn wsX6_from (wsV RX6 192 RX6 yX6_no wsX6_no) := goodIn_app (goodIn_of _ (by decide +kernel)) ggX6_from_X6_no
theorem dX6_from_0 : decode cX6_from 0 = .ok (.iload_n 1, 1) := by decide +kernel
theorem dX6_from_1 : decode cX6_from 1 = .ok (.i2l, 1) := by decide +kernel
theorem dX6_from_2 : decode cX6_from 2 = .ok (.lconst 0, 1) := by decide +kernel
theorem dX6_from_3 : decode cX6_from 3 = .ok (.lconst 1, 1) := by decide +kernel
theorem dX6_from_4 : decode cX6_from 4 = .ok (.invokestatic 56, 3) := by decide +kernel
theorem dX6_from_7 : decode cX6_from 7 = .ok (.ifCond .ne 8, 3) := by decide +kernel
theorem dX6_from_10 : decode cX6_from 10 = .ok (.aload_n 0, 1) := by decide +kernel
theorem dX6_from_11 : decode cX6_from 11 = .ok (.invokevirtual 71, 3) := by decide +kernel
theorem dX6_from_14 : decode cX6_from 14 = .ok (.ireturn, 1) := by decide +kernel
theorem dX6_from_15 : decode cX6_from 15 = .ok (.aload_n 0, 1) := by decide +kernel
theorem dX6_from_16 : decode cX6_from 16 = .ok (.getfield 16, 3) := by decide +kernel
theorem dX6_from_19 : decode cX6_from 19 = .ok (.iload_n 1, 1) := by decide +kernel
theorem dX6_from_20 : decode cX6_from 20 = .ok (.baload, 1) := by decide +kernel
theorem dX6_from_21 : decode cX6_from 21 = .ok (.ifCond .ne 8, 3) := by decide +kernel
theorem dX6_from_24 : decode cX6_from 24 = .ok (.aload_n 0, 1) := by decide +kernel
theorem dX6_from_25 : decode cX6_from 25 = .ok (.invokevirtual 192, 3) := by decide +kernel
theorem dX6_from_28 : decode cX6_from 28 = .ok (.ireturn, 1) := by decide +kernel
theorem dX6_from_29 : decode cX6_from 29 = .ok (.iconst 0, 1) := by decide +kernel
theorem dX6_from_30 : decode cX6_from 30 = .ok (.istore_n 2, 1) := by decide +kernel
theorem dX6_from_31 : decode cX6_from 31 = .ok (.iload_n 2, 1) := by decide +kernel
theorem dX6_from_32 : decode cX6_from 32 = .ok (.bipush 80, 2) := by decide +kernel
theorem dX6_from_34 : decode cX6_from 34 = .ok (.if_icmp .ge 26, 3) := by decide +kernel
theorem dX6_from_37 : decode cX6_from 37 = .ok (.aload_n 0, 1) := by decide +kernel
theorem dX6_from_38 : decode cX6_from 38 = .ok (.getfield 7, 3) := by decide +kernel
theorem dX6_from_41 : decode cX6_from 41 = .ok (.iload_n 2, 1) := by decide +kernel
theorem dX6_from_42 : decode cX6_from 42 = .ok (.aload_n 0, 1) := by decide +kernel
theorem dX6_from_43 : decode cX6_from 43 = .ok (.getfield 13, 3) := by decide +kernel
theorem dX6_from_46 : decode cX6_from 46 = .ok (.bipush 80, 2) := by decide +kernel
theorem dX6_from_48 : decode cX6_from 48 = .ok (.iload_n 1, 1) := by decide +kernel
theorem dX6_from_49 : decode cX6_from 49 = .ok (.imul, 1) := by decide +kernel
theorem dX6_from_50 : decode cX6_from 50 = .ok (.iload_n 2, 1) := by decide +kernel
theorem dX6_from_51 : decode cX6_from 51 = .ok (.iadd, 1) := by decide +kernel
theorem dX6_from_52 : decode cX6_from 52 = .ok (.iaload, 1) := by decide +kernel
theorem dX6_from_53 : decode cX6_from 53 = .ok (.iastore, 1) := by decide +kernel
theorem dX6_from_54 : decode cX6_from 54 = .ok (.iinc 2 1, 3) := by decide +kernel
theorem dX6_from_57 : decode cX6_from 57 = .ok (.goto (-26), 3) := by decide +kernel
theorem dX6_from_60 : decode cX6_from 60 = .ok (.iconst 1, 1) := by decide +kernel
theorem dX6_from_61 : decode cX6_from 61 = .ok (.ireturn, 1) := by decide +kernel
set_option maxRecDepth 20000 in
theorem ggX6_status_X6_in : GoodIn wsX6_status wsX6_in := goodIn_r _ [6] (by decide +kernel) (by decide +kernel)
set_option maxRecDepth 20000 in
theorem gX6_status_X6_in : GoodIn wsX6_status (va_wsS RX6 56 yX6_in wsX6_in) := goodIn_app (goodIn_of _ (by decide +kernel)) ggX6_status_X6_in
set_option maxRecDepth 20000 in
theorem ggX6_status_X6_refuses : GoodIn wsX6_status wsX6_refuses := goodIn_r _ [10, 2, 11, 12, 13, 14, 15, 16, 17, 18, 19, 20, 21, 22, 23, 24, 25, 26, 27, 28, 29, 30, 31] (by decide +kernel) (by decide +kernel)
set_option maxRecDepth 20000 in
theorem gX6_status_X6_refuses : GoodIn wsX6_status (wsV RX6 52 RX6 yX6_refuses wsX6_refuses) := goodIn_app (goodIn_of _ (by decide +kernel)) ggX6_status_X6_refuses
theorem dX6_status_0 : decode cX6_status 0 = .ok (.iload_n 1, 1) := by decide +kernel
theorem dX6_status_1 : decode cX6_status 1 = .ok (.i2l, 1) := by decide +kernel
theorem dX6_status_2 : decode cX6_status 2 = .ok (.lconst 0, 1) := by decide +kernel
theorem dX6_status_3 : decode cX6_status 3 = .ok (.ldc2_w 82, 3) := by decide +kernel
theorem dX6_status_6 : decode cX6_status 6 = .ok (.invokestatic 56, 3) := by decide +kernel
theorem dX6_status_9 : decode cX6_status 9 = .ok (.ifCond .eq 12, 3) := by decide +kernel
theorem dX6_status_12 : decode cX6_status 12 = .ok (.aload_n 0, 1) := by decide +kernel
theorem dX6_status_13 : decode cX6_status 13 = .ok (.getfield 23, 3) := by decide +kernel
theorem dX6_status_16 : decode cX6_status 16 = .ok (.iload_n 1, 1) := by decide +kernel
theorem dX6_status_17 : decode cX6_status 17 = .ok (.iaload, 1) := by decide +kernel
theorem dX6_status_18 : decode cX6_status 18 = .ok (.goto 9, 3) := by decide +kernel
theorem dX6_status_21 : decode cX6_status 21 = .ok (.aload_n 0, 1) := by decide +kernel
theorem dX6_status_22 : decode cX6_status 22 = .ok (.iconst 0, 1) := by decide +kernel
theorem dX6_status_23 : decode cX6_status 23 = .ok (.iconst (-1), 1) := by decide +kernel
theorem dX6_status_24 : decode cX6_status 24 = .ok (.invokevirtual 52, 3) := by decide +kernel
theorem dX6_status_27 : decode cX6_status 27 = .ok (.ireturn, 1) := by decide +kernel
set_option maxRecDepth 20000 in
theorem ggX6_countOf_X6_groups : GoodIn wsX6_countOf wsX6_groups := goodIn_r _ [7, 1, 8, 9, 10, 11, 12, 13, 14, 15, 16, 17, 18, 19, 20, 21, 22, 23, 24, 25, 26, 27] (by decide +kernel) (by decide +kernel)
set_option maxRecDepth 20000 in
theorem gX6_countOf_X6_groups : GoodIn wsX6_countOf (wsV RX6 181 RX6 yX6_groups wsX6_groups) := goodIn_app (goodIn_of _ (by decide +kernel)) ggX6_countOf_X6_groups
theorem dX6_countOf_0 : decode cX6_countOf 0 = .ok (.iload_n 1, 1) := by decide +kernel
theorem dX6_countOf_1 : decode cX6_countOf 1 = .ok (.iconst 2, 1) := by decide +kernel
theorem dX6_countOf_2 : decode cX6_countOf 2 = .ok (.if_icmp .ge 12, 3) := by decide +kernel
theorem dX6_countOf_5 : decode cX6_countOf 5 = .ok (.aload_n 0, 1) := by decide +kernel
theorem dX6_countOf_6 : decode cX6_countOf 6 = .ok (.getfield 7, 3) := by decide +kernel
theorem dX6_countOf_9 : decode cX6_countOf 9 = .ok (.iload_n 1, 1) := by decide +kernel
theorem dX6_countOf_10 : decode cX6_countOf 10 = .ok (.iaload, 1) := by decide +kernel
theorem dX6_countOf_11 : decode cX6_countOf 11 = .ok (.goto 25, 3) := by decide +kernel
theorem dX6_countOf_14 : decode cX6_countOf 14 = .ok (.iload_n 1, 1) := by decide +kernel
theorem dX6_countOf_15 : decode cX6_countOf 15 = .ok (.iconst 2, 1) := by decide +kernel
theorem dX6_countOf_16 : decode cX6_countOf 16 = .ok (.if_icmp .ne 16, 3) := by decide +kernel
theorem dX6_countOf_19 : decode cX6_countOf 19 = .ok (.aload_n 0, 1) := by decide +kernel
theorem dX6_countOf_20 : decode cX6_countOf 20 = .ok (.aload_n 0, 1) := by decide +kernel
theorem dX6_countOf_21 : decode cX6_countOf 21 = .ok (.getfield 7, 3) := by decide +kernel
theorem dX6_countOf_24 : decode cX6_countOf 24 = .ok (.iconst 4, 1) := by decide +kernel
theorem dX6_countOf_25 : decode cX6_countOf 25 = .ok (.iaload, 1) := by decide +kernel
theorem dX6_countOf_26 : decode cX6_countOf 26 = .ok (.invokevirtual 181, 3) := by decide +kernel
theorem dX6_countOf_29 : decode cX6_countOf 29 = .ok (.goto 7, 3) := by decide +kernel
theorem dX6_countOf_32 : decode cX6_countOf 32 = .ok (.aload_n 0, 1) := by decide +kernel
theorem dX6_countOf_33 : decode cX6_countOf 33 = .ok (.getfield 102, 3) := by decide +kernel
theorem dX6_countOf_36 : decode cX6_countOf 36 = .ok (.ireturn, 1) := by decide +kernel
set_option maxRecDepth 20000 in
theorem ggX6_count_X6_in : GoodIn wsX6_count wsX6_in := goodIn_r _ [5] (by decide +kernel) (by decide +kernel)
set_option maxRecDepth 20000 in
theorem gX6_count_X6_in : GoodIn wsX6_count (va_wsS RX6 56 yX6_in wsX6_in) := goodIn_app (goodIn_of _ (by decide +kernel)) ggX6_count_X6_in
set_option maxRecDepth 20000 in
theorem ggX6_count_X6_countOf : GoodIn wsX6_count wsX6_countOf := goodIn_r _ [9, 10, 11, 12, 13, 14, 4, 15, 26, 27, 28, 29, 30, 31, 32, 33, 34, 35, 36, 37, 38, 39, 40, 41, 42, 43, 44, 45] (by decide +kernel) (by decide +kernel)
set_option maxRecDepth 20000 in
theorem gX6_count_X6_countOf : GoodIn wsX6_count (wsV RX6 238 RX6 yX6_countOf wsX6_countOf) := goodIn_app (goodIn_of _ (by decide +kernel)) ggX6_count_X6_countOf
set_option maxRecDepth 20000 in
theorem ggX6_count_X6_bad : GoodIn wsX6_count wsX6_bad := goodIn_r _ [19, 20, 21, 22, 4, 23, 24, 25, 26, 27, 28, 29, 30, 31, 32, 33, 34, 35, 36, 37, 38, 39, 40, 41, 42, 43, 44, 45] (by decide +kernel) (by decide +kernel)
set_option maxRecDepth 20000 in
theorem gX6_count_X6_bad : GoodIn wsX6_count (wsV RX6 71 RX6 yX6_bad wsX6_bad) := goodIn_app (goodIn_of _ (by decide +kernel)) ggX6_count_X6_bad
theorem dX6_count_0 : decode cX6_count 0 = .ok (.iload_n 1, 1) := by decide +kernel
theorem dX6_count_1 : decode cX6_count 1 = .ok (.i2l, 1) := by decide +kernel
theorem dX6_count_2 : decode cX6_count 2 = .ok (.lconst 0, 1) := by decide +kernel
theorem dX6_count_3 : decode cX6_count 3 = .ok (.ldc2_w 67, 3) := by decide +kernel
theorem dX6_count_6 : decode cX6_count 6 = .ok (.invokestatic 56, 3) := by decide +kernel
theorem dX6_count_9 : decode cX6_count 9 = .ok (.ifCond .eq 11, 3) := by decide +kernel
theorem dX6_count_12 : decode cX6_count 12 = .ok (.aload_n 0, 1) := by decide +kernel
theorem dX6_count_13 : decode cX6_count 13 = .ok (.iload_n 1, 1) := by decide +kernel
theorem dX6_count_14 : decode cX6_count 14 = .ok (.invokevirtual 238, 3) := by decide +kernel
theorem dX6_count_17 : decode cX6_count 17 = .ok (.goto 7, 3) := by decide +kernel
theorem dX6_count_20 : decode cX6_count 20 = .ok (.aload_n 0, 1) := by decide +kernel
theorem dX6_count_21 : decode cX6_count 21 = .ok (.invokevirtual 71, 3) := by decide +kernel
theorem dX6_count_24 : decode cX6_count 24 = .ok (.ireturn, 1) := by decide +kernel
theorem dX6_mixed_0 : decode cX6_mixed 0 = .ok (.lload_n 1, 1) := by decide +kernel
theorem dX6_mixed_1 : decode cX6_mixed 1 = .ok (.lstore 5, 2) := by decide +kernel
theorem dX6_mixed_3 : decode cX6_mixed 3 = .ok (.iconst 0, 1) := by decide +kernel
theorem dX6_mixed_4 : decode cX6_mixed 4 = .ok (.istore 7, 2) := by decide +kernel
theorem dX6_mixed_6 : decode cX6_mixed 6 = .ok (.iload 7, 2) := by decide +kernel
theorem dX6_mixed_8 : decode cX6_mixed 8 = .ok (.iload 4, 2) := by decide +kernel
theorem dX6_mixed_10 : decode cX6_mixed 10 = .ok (.if_icmp .ge 28, 3) := by decide +kernel
theorem dX6_mixed_13 : decode cX6_mixed 13 = .ok (.ldc2_w 241, 3) := by decide +kernel
theorem dX6_mixed_16 : decode cX6_mixed 16 = .ok (.lload 5, 2) := by decide +kernel
theorem dX6_mixed_18 : decode cX6_mixed 18 = .ok (.lmul, 1) := by decide +kernel
theorem dX6_mixed_19 : decode cX6_mixed 19 = .ok (.aload_n 0, 1) := by decide +kernel
theorem dX6_mixed_20 : decode cX6_mixed 20 = .ok (.getfield 7, 3) := by decide +kernel
theorem dX6_mixed_23 : decode cX6_mixed 23 = .ok (.iload_n 3, 1) := by decide +kernel
theorem dX6_mixed_24 : decode cX6_mixed 24 = .ok (.iload 7, 2) := by decide +kernel
theorem dX6_mixed_26 : decode cX6_mixed 26 = .ok (.iadd, 1) := by decide +kernel
theorem dX6_mixed_27 : decode cX6_mixed 27 = .ok (.iaload, 1) := by decide +kernel
theorem dX6_mixed_28 : decode cX6_mixed 28 = .ok (.i2l, 1) := by decide +kernel
theorem dX6_mixed_29 : decode cX6_mixed 29 = .ok (.ladd, 1) := by decide +kernel
theorem dX6_mixed_30 : decode cX6_mixed 30 = .ok (.lstore 5, 2) := by decide +kernel
theorem dX6_mixed_32 : decode cX6_mixed 32 = .ok (.iinc 7 1, 3) := by decide +kernel
theorem dX6_mixed_35 : decode cX6_mixed 35 = .ok (.goto (-29), 3) := by decide +kernel
theorem dX6_mixed_38 : decode cX6_mixed 38 = .ok (.lload 5, 2) := by decide +kernel
theorem dX6_mixed_40 : decode cX6_mixed 40 = .ok (.lreturn, 1) := by decide +kernel
set_option maxRecDepth 20000 in
theorem ggX6_digest_X6_countOf : GoodIn wsX6_digest wsX6_countOf := goodIn_r _ [10, 3, 11, 12, 13, 14, 9, 15, 24, 25, 26, 27, 28, 29, 30, 31, 32, 33, 34, 35, 36, 37, 38, 39, 40, 41, 42, 43] (by decide +kernel) (by decide +kernel)
set_option maxRecDepth 20000 in
theorem gX6_digest_X6_countOf : GoodIn wsX6_digest (wsV RX6 238 RX6 yX6_countOf wsX6_countOf) := goodIn_app (goodIn_of _ (by decide +kernel)) ggX6_digest_X6_countOf
set_option maxRecDepth 20000 in
theorem ggX6_digest_X6_mixed : GoodIn wsX6_digest wsX6_mixed := goodIn_r _ [19, 2, 3, 24, 25, 26, 27, 28, 29, 30, 31, 32, 33, 34, 35, 36, 37, 38, 39, 40, 41, 42, 43] (by decide +kernel) (by decide +kernel)
set_option maxRecDepth 20000 in
theorem gX6_digest_X6_mixed : GoodIn wsX6_digest (wsV RX6 245 RX6 yX6_mixed wsX6_mixed) := goodIn_app (goodIn_of _ (by decide +kernel)) ggX6_digest_X6_mixed
set_option maxRecDepth 20000 in
theorem ggX6_digest_X6_moodNow : GoodIn wsX6_digest wsX6_moodNow := goodIn_r _ [23, 3, 24, 25, 26, 27, 28, 29, 30, 31, 32, 33, 34, 35, 36, 37, 38, 39, 40, 41, 42, 43] (by decide +kernel) (by decide +kernel)
set_option maxRecDepth 20000 in
theorem gX6_digest_X6_moodNow : GoodIn wsX6_digest (wsV RX6 201 RX6 yX6_moodNow wsX6_moodNow) := goodIn_app (goodIn_of _ (by decide +kernel)) ggX6_digest_X6_moodNow
theorem dX6_digest_0 : decode cX6_digest 0 = .ok (.ldc2_w 243, 3) := by decide +kernel
theorem dX6_digest_3 : decode cX6_digest 3 = .ok (.lstore_n 1, 1) := by decide +kernel
theorem dX6_digest_4 : decode cX6_digest 4 = .ok (.iconst 0, 1) := by decide +kernel
theorem dX6_digest_5 : decode cX6_digest 5 = .ok (.istore_n 3, 1) := by decide +kernel
theorem dX6_digest_6 : decode cX6_digest 6 = .ok (.iload_n 3, 1) := by decide +kernel
theorem dX6_digest_7 : decode cX6_digest 7 = .ok (.iconst 4, 1) := by decide +kernel
theorem dX6_digest_8 : decode cX6_digest 8 = .ok (.if_icmp .ge 22, 3) := by decide +kernel
theorem dX6_digest_11 : decode cX6_digest 11 = .ok (.ldc2_w 241, 3) := by decide +kernel
theorem dX6_digest_14 : decode cX6_digest 14 = .ok (.lload_n 1, 1) := by decide +kernel
theorem dX6_digest_15 : decode cX6_digest 15 = .ok (.lmul, 1) := by decide +kernel
theorem dX6_digest_16 : decode cX6_digest 16 = .ok (.aload_n 0, 1) := by decide +kernel
theorem dX6_digest_17 : decode cX6_digest 17 = .ok (.iload_n 3, 1) := by decide +kernel
theorem dX6_digest_18 : decode cX6_digest 18 = .ok (.invokevirtual 238, 3) := by decide +kernel
theorem dX6_digest_21 : decode cX6_digest 21 = .ok (.i2l, 1) := by decide +kernel
theorem dX6_digest_22 : decode cX6_digest 22 = .ok (.ladd, 1) := by decide +kernel
theorem dX6_digest_23 : decode cX6_digest 23 = .ok (.lstore_n 1, 1) := by decide +kernel
theorem dX6_digest_24 : decode cX6_digest 24 = .ok (.iinc 3 1, 3) := by decide +kernel
theorem dX6_digest_27 : decode cX6_digest 27 = .ok (.goto (-21), 3) := by decide +kernel
theorem dX6_digest_30 : decode cX6_digest 30 = .ok (.aload_n 0, 1) := by decide +kernel
theorem dX6_digest_31 : decode cX6_digest 31 = .ok (.lload_n 1, 1) := by decide +kernel
theorem dX6_digest_32 : decode cX6_digest 32 = .ok (.bipush 8, 2) := by decide +kernel
theorem dX6_digest_34 : decode cX6_digest 34 = .ok (.iconst 4, 1) := by decide +kernel
theorem dX6_digest_35 : decode cX6_digest 35 = .ok (.aload_n 0, 1) := by decide +kernel
theorem dX6_digest_36 : decode cX6_digest 36 = .ok (.getfield 7, 3) := by decide +kernel
theorem dX6_digest_39 : decode cX6_digest 39 = .ok (.iconst 0, 1) := by decide +kernel
theorem dX6_digest_40 : decode cX6_digest 40 = .ok (.iaload, 1) := by decide +kernel
theorem dX6_digest_41 : decode cX6_digest 41 = .ok (.imul, 1) := by decide +kernel
theorem dX6_digest_42 : decode cX6_digest 42 = .ok (.invokevirtual 245, 3) := by decide +kernel
theorem dX6_digest_45 : decode cX6_digest 45 = .ok (.lstore_n 1, 1) := by decide +kernel
theorem dX6_digest_46 : decode cX6_digest 46 = .ok (.aload_n 0, 1) := by decide +kernel
theorem dX6_digest_47 : decode cX6_digest 47 = .ok (.lload_n 1, 1) := by decide +kernel
theorem dX6_digest_48 : decode cX6_digest 48 = .ok (.bipush 56, 2) := by decide +kernel
theorem dX6_digest_50 : decode cX6_digest 50 = .ok (.aload_n 0, 1) := by decide +kernel
theorem dX6_digest_51 : decode cX6_digest 51 = .ok (.getfield 7, 3) := by decide +kernel
theorem dX6_digest_54 : decode cX6_digest 54 = .ok (.iconst 1, 1) := by decide +kernel
theorem dX6_digest_55 : decode cX6_digest 55 = .ok (.iaload, 1) := by decide +kernel
theorem dX6_digest_56 : decode cX6_digest 56 = .ok (.invokevirtual 245, 3) := by decide +kernel
theorem dX6_digest_59 : decode cX6_digest 59 = .ok (.lstore_n 1, 1) := by decide +kernel
theorem dX6_digest_60 : decode cX6_digest 60 = .ok (.aload_n 0, 1) := by decide +kernel
theorem dX6_digest_61 : decode cX6_digest 61 = .ok (.aload_n 0, 1) := by decide +kernel
theorem dX6_digest_62 : decode cX6_digest 62 = .ok (.lload_n 1, 1) := by decide +kernel
theorem dX6_digest_63 : decode cX6_digest 63 = .ok (.bipush 60, 2) := by decide +kernel
theorem dX6_digest_65 : decode cX6_digest 65 = .ok (.iconst 4, 1) := by decide +kernel
theorem dX6_digest_66 : decode cX6_digest 66 = .ok (.invokevirtual 245, 3) := by decide +kernel
theorem dX6_digest_69 : decode cX6_digest 69 = .ok (.iconst 4, 1) := by decide +kernel
theorem dX6_digest_70 : decode cX6_digest 70 = .ok (.iconst 3, 1) := by decide +kernel
theorem dX6_digest_71 : decode cX6_digest 71 = .ok (.invokevirtual 245, 3) := by decide +kernel
theorem dX6_digest_74 : decode cX6_digest 74 = .ok (.lstore_n 1, 1) := by decide +kernel
theorem dX6_digest_75 : decode cX6_digest 75 = .ok (.ldc2_w 241, 3) := by decide +kernel
theorem dX6_digest_78 : decode cX6_digest 78 = .ok (.ldc2_w 241, 3) := by decide +kernel
theorem dX6_digest_81 : decode cX6_digest 81 = .ok (.lload_n 1, 1) := by decide +kernel
theorem dX6_digest_82 : decode cX6_digest 82 = .ok (.lmul, 1) := by decide +kernel
theorem dX6_digest_83 : decode cX6_digest 83 = .ok (.aload_n 0, 1) := by decide +kernel
theorem dX6_digest_84 : decode cX6_digest 84 = .ok (.invokevirtual 201, 3) := by decide +kernel
theorem dX6_digest_87 : decode cX6_digest 87 = .ok (.i2l, 1) := by decide +kernel
theorem dX6_digest_88 : decode cX6_digest 88 = .ok (.ladd, 1) := by decide +kernel
theorem dX6_digest_89 : decode cX6_digest 89 = .ok (.lmul, 1) := by decide +kernel
theorem dX6_digest_90 : decode cX6_digest 90 = .ok (.aload_n 0, 1) := by decide +kernel
theorem dX6_digest_91 : decode cX6_digest 91 = .ok (.getfield 7, 3) := by decide +kernel
theorem dX6_digest_94 : decode cX6_digest 94 = .ok (.bipush 7, 2) := by decide +kernel
theorem dX6_digest_96 : decode cX6_digest 96 = .ok (.iaload, 1) := by decide +kernel
theorem dX6_digest_97 : decode cX6_digest 97 = .ok (.i2l, 1) := by decide +kernel
theorem dX6_digest_98 : decode cX6_digest 98 = .ok (.ladd, 1) := by decide +kernel
theorem dX6_digest_99 : decode cX6_digest 99 = .ok (.lstore_n 1, 1) := by decide +kernel
theorem dX6_digest_100 : decode cX6_digest 100 = .ok (.aload_n 0, 1) := by decide +kernel
theorem dX6_digest_101 : decode cX6_digest 101 = .ok (.lload_n 1, 1) := by decide +kernel
theorem dX6_digest_102 : decode cX6_digest 102 = .ok (.bipush 64, 2) := by decide +kernel
theorem dX6_digest_104 : decode cX6_digest 104 = .ok (.aload_n 0, 1) := by decide +kernel
theorem dX6_digest_105 : decode cX6_digest 105 = .ok (.getfield 7, 3) := by decide +kernel
theorem dX6_digest_108 : decode cX6_digest 108 = .ok (.bipush 7, 2) := by decide +kernel
theorem dX6_digest_110 : decode cX6_digest 110 = .ok (.iaload, 1) := by decide +kernel
theorem dX6_digest_111 : decode cX6_digest 111 = .ok (.invokevirtual 245, 3) := by decide +kernel
theorem dX6_digest_114 : decode cX6_digest 114 = .ok (.lstore_n 1, 1) := by decide +kernel
theorem dX6_digest_115 : decode cX6_digest 115 = .ok (.ldc2_w 241, 3) := by decide +kernel
theorem dX6_digest_118 : decode cX6_digest 118 = .ok (.ldc2_w 241, 3) := by decide +kernel
theorem dX6_digest_121 : decode cX6_digest 121 = .ok (.lload_n 1, 1) := by decide +kernel
theorem dX6_digest_122 : decode cX6_digest 122 = .ok (.lmul, 1) := by decide +kernel
theorem dX6_digest_123 : decode cX6_digest 123 = .ok (.aload_n 0, 1) := by decide +kernel
theorem dX6_digest_124 : decode cX6_digest 124 = .ok (.getfield 64, 3) := by decide +kernel
theorem dX6_digest_127 : decode cX6_digest 127 = .ok (.ladd, 1) := by decide +kernel
theorem dX6_digest_128 : decode cX6_digest 128 = .ok (.lmul, 1) := by decide +kernel
theorem dX6_digest_129 : decode cX6_digest 129 = .ok (.aload_n 0, 1) := by decide +kernel
theorem dX6_digest_130 : decode cX6_digest 130 = .ok (.getfield 41, 3) := by decide +kernel
theorem dX6_digest_133 : decode cX6_digest 133 = .ok (.ladd, 1) := by decide +kernel
theorem dX6_digest_134 : decode cX6_digest 134 = .ok (.lreturn, 1) := by decide +kernel
theorem dJ9_max_7cf53_0 : decode cJ9_max_7cf53 0 = .ok (.iload_n 0, 1) := by decide +kernel
theorem dJ9_max_7cf53_1 : decode cJ9_max_7cf53 1 = .ok (.iload_n 1, 1) := by decide +kernel
theorem dJ9_max_7cf53_2 : decode cJ9_max_7cf53 2 = .ok (.if_icmp .lt 7, 3) := by decide +kernel
theorem dJ9_max_7cf53_5 : decode cJ9_max_7cf53 5 = .ok (.iload_n 0, 1) := by decide +kernel
theorem dJ9_max_7cf53_6 : decode cJ9_max_7cf53 6 = .ok (.goto 4, 3) := by decide +kernel
theorem dJ9_max_7cf53_9 : decode cJ9_max_7cf53 9 = .ok (.iload_n 1, 1) := by decide +kernel
theorem dJ9_max_7cf53_10 : decode cJ9_max_7cf53 10 = .ok (.ireturn, 1) := by decide +kernel
theorem dJ9_min_7cf53_0 : decode cJ9_min_7cf53 0 = .ok (.iload_n 0, 1) := by decide +kernel
theorem dJ9_min_7cf53_1 : decode cJ9_min_7cf53 1 = .ok (.iload_n 1, 1) := by decide +kernel
theorem dJ9_min_7cf53_2 : decode cJ9_min_7cf53 2 = .ok (.if_icmp .gt 7, 3) := by decide +kernel
theorem dJ9_min_7cf53_5 : decode cJ9_min_7cf53 5 = .ok (.iload_n 0, 1) := by decide +kernel
theorem dJ9_min_7cf53_6 : decode cJ9_min_7cf53 6 = .ok (.goto 4, 3) := by decide +kernel
theorem dJ9_min_7cf53_9 : decode cJ9_min_7cf53 9 = .ok (.iload_n 1, 1) := by decide +kernel
theorem dJ9_min_7cf53_10 : decode cJ9_min_7cf53 10 = .ok (.ireturn, 1) := by decide +kernel
set_option maxRecDepth 20000 in
theorem ggJ0_length_8abf5_J0_coder_7d493 : GoodIn wsJ0_length_8abf5 wsJ0_coder_7d493 := goodIn_r _ [6, 7, 8] (by decide +kernel) (by decide +kernel)
set_option maxRecDepth 20000 in
theorem gJ0_length_8abf5_J0_coder_7d493 : GoodIn wsJ0_length_8abf5 (wsV RJ0 335 RJ0 yJ0_coder_7d493 wsJ0_coder_7d493) := goodIn_app (goodIn_of _ (by decide +kernel)) ggJ0_length_8abf5_J0_coder_7d493
theorem dJ0_length_8abf5_0 : decode cJ0_length_8abf5 0 = .ok (.aload_n 0, 1) := by decide +kernel
theorem dJ0_length_8abf5_1 : decode cJ0_length_8abf5 1 = .ok (.getfield 9, 3) := by decide +kernel
theorem dJ0_length_8abf5_4 : decode cJ0_length_8abf5 4 = .ok (.arraylength, 1) := by decide +kernel
theorem dJ0_length_8abf5_5 : decode cJ0_length_8abf5 5 = .ok (.aload_n 0, 1) := by decide +kernel
theorem dJ0_length_8abf5_6 : decode cJ0_length_8abf5 6 = .ok (.invokevirtual 335, 3) := by decide +kernel
theorem dJ0_length_8abf5_9 : decode cJ0_length_8abf5 9 = .ok (.ishr, 1) := by decide +kernel
theorem dJ0_length_8abf5_10 : decode cJ0_length_8abf5 10 = .ok (.ireturn, 1) := by decide +kernel
set_option maxRecDepth 20000 in
theorem ggJ0_charAt_5068e_J0_isLatin1_aae02 : GoodIn wsJ0_charAt_5068e wsJ0_isLatin1_aae02 := goodIn_r _ [6, 7, 8] (by decide +kernel) (by decide +kernel)
set_option maxRecDepth 20000 in
theorem gJ0_charAt_5068e_J0_isLatin1_aae02 : GoodIn wsJ0_charAt_5068e (wsV RJ0 492 RJ0 yJ0_isLatin1_aae02 wsJ0_isLatin1_aae02) := goodIn_app (goodIn_of _ (by decide +kernel)) ggJ0_charAt_5068e_J0_isLatin1_aae02
set_option maxRecDepth 20000 in
theorem ggJ0_charAt_5068e_J1_charAt_3b067 : GoodIn wsJ0_charAt_5068e wsJ1_charAt_3b067 := goodIn_r _ [12, 13, 14, 5, 15, 16, 17, 18, 19, 20] (by decide +kernel) (by decide +kernel)
set_option maxRecDepth 20000 in
theorem gJ0_charAt_5068e_J1_charAt_3b067 : GoodIn wsJ0_charAt_5068e (va_wsS RJ0 495 yJ1_charAt_3b067 wsJ1_charAt_3b067) := goodIn_app (goodIn_of _ (by decide +kernel)) ggJ0_charAt_5068e_J1_charAt_3b067
set_option maxRecDepth 20000 in
theorem ggJ0_charAt_5068e_J2_charAt_3b067 : GoodIn wsJ0_charAt_5068e wsJ2_charAt_3b067 := goodIn_r _ [24, 25, 26, 23, 27, 28, 29, 30, 31, 14, 5, 15, 16, 17, 18, 19, 20, 32, 33, 34, 35, 36, 37] (by decide +kernel) (by decide +kernel)
set_option maxRecDepth 20000 in
theorem gJ0_charAt_5068e_J2_charAt_3b067 : GoodIn wsJ0_charAt_5068e (va_wsS RJ0 498 yJ2_charAt_3b067 wsJ2_charAt_3b067) := goodIn_app (goodIn_of _ (by decide +kernel)) ggJ0_charAt_5068e_J2_charAt_3b067
theorem dJ0_charAt_5068e_0 : decode cJ0_charAt_5068e 0 = .ok (.aload_n 0, 1) := by decide +kernel
theorem dJ0_charAt_5068e_1 : decode cJ0_charAt_5068e 1 = .ok (.invokevirtual 492, 3) := by decide +kernel
theorem dJ0_charAt_5068e_4 : decode cJ0_charAt_5068e 4 = .ok (.ifCond .eq 12, 3) := by decide +kernel
theorem dJ0_charAt_5068e_7 : decode cJ0_charAt_5068e 7 = .ok (.aload_n 0, 1) := by decide +kernel
theorem dJ0_charAt_5068e_8 : decode cJ0_charAt_5068e 8 = .ok (.getfield 9, 3) := by decide +kernel
theorem dJ0_charAt_5068e_11 : decode cJ0_charAt_5068e 11 = .ok (.iload_n 1, 1) := by decide +kernel
theorem dJ0_charAt_5068e_12 : decode cJ0_charAt_5068e 12 = .ok (.invokestatic 495, 3) := by decide +kernel
theorem dJ0_charAt_5068e_15 : decode cJ0_charAt_5068e 15 = .ok (.ireturn, 1) := by decide +kernel
theorem dJ0_charAt_5068e_16 : decode cJ0_charAt_5068e 16 = .ok (.aload_n 0, 1) := by decide +kernel
theorem dJ0_charAt_5068e_17 : decode cJ0_charAt_5068e 17 = .ok (.getfield 9, 3) := by decide +kernel
theorem dJ0_charAt_5068e_20 : decode cJ0_charAt_5068e 20 = .ok (.iload_n 1, 1) := by decide +kernel
theorem dJ0_charAt_5068e_21 : decode cJ0_charAt_5068e 21 = .ok (.invokestatic 498, 3) := by decide +kernel
theorem dJ0_charAt_5068e_24 : decode cJ0_charAt_5068e 24 = .ok (.ireturn, 1) := by decide +kernel
theorem dJ0_coder_7d493_0 : decode cJ0_coder_7d493 0 = .ok (.getstatic 38, 3) := by decide +kernel
theorem dJ0_coder_7d493_3 : decode cJ0_coder_7d493 3 = .ok (.ifCond .eq 10, 3) := by decide +kernel
theorem dJ0_coder_7d493_6 : decode cJ0_coder_7d493 6 = .ok (.aload_n 0, 1) := by decide +kernel
theorem dJ0_coder_7d493_7 : decode cJ0_coder_7d493 7 = .ok (.getfield 15, 3) := by decide +kernel
theorem dJ0_coder_7d493_10 : decode cJ0_coder_7d493 10 = .ok (.goto 4, 3) := by decide +kernel
theorem dJ0_coder_7d493_13 : decode cJ0_coder_7d493 13 = .ok (.iconst 1, 1) := by decide +kernel
theorem dJ0_coder_7d493_14 : decode cJ0_coder_7d493 14 = .ok (.ireturn, 1) := by decide +kernel
theorem dJ0_isLatin1_aae02_0 : decode cJ0_isLatin1_aae02 0 = .ok (.getstatic 38, 3) := by decide +kernel
theorem dJ0_isLatin1_aae02_3 : decode cJ0_isLatin1_aae02 3 = .ok (.ifCond .eq 14, 3) := by decide +kernel
theorem dJ0_isLatin1_aae02_6 : decode cJ0_isLatin1_aae02 6 = .ok (.aload_n 0, 1) := by decide +kernel
theorem dJ0_isLatin1_aae02_7 : decode cJ0_isLatin1_aae02 7 = .ok (.getfield 15, 3) := by decide +kernel
theorem dJ0_isLatin1_aae02_10 : decode cJ0_isLatin1_aae02 10 = .ok (.ifCond .ne 7, 3) := by decide +kernel
theorem dJ0_isLatin1_aae02_13 : decode cJ0_isLatin1_aae02 13 = .ok (.iconst 1, 1) := by decide +kernel
theorem dJ0_isLatin1_aae02_14 : decode cJ0_isLatin1_aae02 14 = .ok (.goto 4, 3) := by decide +kernel
theorem dJ0_isLatin1_aae02_17 : decode cJ0_isLatin1_aae02 17 = .ok (.iconst 0, 1) := by decide +kernel
theorem dJ0_isLatin1_aae02_18 : decode cJ0_isLatin1_aae02 18 = .ok (.ireturn, 1) := by decide +kernel
set_option maxRecDepth 20000 in
theorem ggJ0_checkIndex_df160_J3_checkIndex_8e157 : GoodIn wsJ0_checkIndex_df160 wsJ3_checkIndex_8e157 := goodIn_r _ [5] (by decide +kernel) (by decide +kernel)
set_option maxRecDepth 20000 in
theorem gJ0_checkIndex_df160_J3_checkIndex_8e157 : GoodIn wsJ0_checkIndex_df160 (va_wsS RJ0 1059 yJ3_checkIndex_8e157 wsJ3_checkIndex_8e157) := goodIn_app (goodIn_of _ (by decide +kernel)) ggJ0_checkIndex_df160_J3_checkIndex_8e157
theorem dJ0_checkIndex_df160_0 : decode cJ0_checkIndex_df160 0 = .ok (.iload_n 0, 1) := by decide +kernel
theorem dJ0_checkIndex_df160_1 : decode cJ0_checkIndex_df160 1 = .ok (.iload_n 1, 1) := by decide +kernel
theorem dJ0_checkIndex_df160_2 : decode cJ0_checkIndex_df160 2 = .ok (.getstatic 1053, 3) := by decide +kernel
theorem dJ0_checkIndex_df160_5 : decode cJ0_checkIndex_df160 5 = .ok (.invokestatic 1059, 3) := by decide +kernel
theorem dJ0_checkIndex_df160_8 : decode cJ0_checkIndex_df160 8 = .ok (.pop, 1) := by decide +kernel
theorem dJ0_checkIndex_df160_9 : decode cJ0_checkIndex_df160 9 = .ok (.return_, 1) := by decide +kernel
set_option maxRecDepth 20000 in
theorem ggJ1_charAt_3b067_J0_checkIndex_df160 : GoodIn wsJ1_charAt_3b067 wsJ0_checkIndex_df160 := goodIn_r _ [4, 5, 6, 7, 8, 9] (by decide +kernel) (by decide +kernel)
set_option maxRecDepth 20000 in
theorem gJ1_charAt_3b067_J0_checkIndex_df160 : GoodIn wsJ1_charAt_3b067 (va_wsS RJ1 9 yJ0_checkIndex_df160 wsJ0_checkIndex_df160) := goodIn_app (goodIn_of _ (by decide +kernel)) ggJ1_charAt_3b067_J0_checkIndex_df160
theorem dJ1_charAt_3b067_0 : decode cJ1_charAt_3b067 0 = .ok (.iload_n 1, 1) := by decide +kernel
theorem dJ1_charAt_3b067_1 : decode cJ1_charAt_3b067 1 = .ok (.aload_n 0, 1) := by decide +kernel
theorem dJ1_charAt_3b067_2 : decode cJ1_charAt_3b067 2 = .ok (.arraylength, 1) := by decide +kernel
theorem dJ1_charAt_3b067_3 : decode cJ1_charAt_3b067 3 = .ok (.invokestatic 9, 3) := by decide +kernel
theorem dJ1_charAt_3b067_6 : decode cJ1_charAt_3b067 6 = .ok (.aload_n 0, 1) := by decide +kernel
theorem dJ1_charAt_3b067_7 : decode cJ1_charAt_3b067 7 = .ok (.iload_n 1, 1) := by decide +kernel
theorem dJ1_charAt_3b067_8 : decode cJ1_charAt_3b067 8 = .ok (.baload, 1) := by decide +kernel
theorem dJ1_charAt_3b067_9 : decode cJ1_charAt_3b067 9 = .ok (.sipush 255, 3) := by decide +kernel
theorem dJ1_charAt_3b067_12 : decode cJ1_charAt_3b067 12 = .ok (.iand, 1) := by decide +kernel
theorem dJ1_charAt_3b067_13 : decode cJ1_charAt_3b067 13 = .ok (.i2c, 1) := by decide +kernel
theorem dJ1_charAt_3b067_14 : decode cJ1_charAt_3b067 14 = .ok (.ireturn, 1) := by decide +kernel
set_option maxRecDepth 20000 in
theorem ggJ2_getChar_3b067_J2_length_9d52b : GoodIn wsJ2_getChar_3b067 wsJ2_length_9d52b := goodIn_r _ [7] (by decide +kernel) (by decide +kernel)
set_option maxRecDepth 20000 in
theorem gJ2_getChar_3b067_J2_length_9d52b : GoodIn wsJ2_getChar_3b067 (va_wsS RJ2 48 yJ2_length_9d52b wsJ2_length_9d52b) := goodIn_app (goodIn_of _ (by decide +kernel)) ggJ2_getChar_3b067_J2_length_9d52b
theorem dJ2_getChar_3b067_0 : decode cJ2_getChar_3b067 0 = .ok (.getstatic 44, 3) := by decide +kernel
theorem dJ2_getChar_3b067_3 : decode cJ2_getChar_3b067 3 = .ok (.ifCond .ne 25, 3) := by decide +kernel
theorem dJ2_getChar_3b067_6 : decode cJ2_getChar_3b067 6 = .ok (.iload_n 1, 1) := by decide +kernel
theorem dJ2_getChar_3b067_7 : decode cJ2_getChar_3b067 7 = .ok (.ifCond .lt 11, 3) := by decide +kernel
theorem dJ2_getChar_3b067_10 : decode cJ2_getChar_3b067 10 = .ok (.iload_n 1, 1) := by decide +kernel
theorem dJ2_getChar_3b067_11 : decode cJ2_getChar_3b067 11 = .ok (.aload_n 0, 1) := by decide +kernel
theorem dJ2_getChar_3b067_12 : decode cJ2_getChar_3b067 12 = .ok (.invokestatic 48, 3) := by decide +kernel
theorem dJ2_getChar_3b067_15 : decode cJ2_getChar_3b067 15 = .ok (.if_icmp .lt 13, 3) := by decide +kernel
theorem dJ2_getChar_3b067_18 : decode cJ2_getChar_3b067 18 = .ok (.new 52, 3) := by decide +kernel
theorem dJ2_getChar_3b067_21 : decode cJ2_getChar_3b067 21 = .ok (.dup, 1) := by decide +kernel
theorem dJ2_getChar_3b067_22 : decode cJ2_getChar_3b067 22 = .ok (.ldc 54, 2) := by decide +kernel
theorem dJ2_getChar_3b067_24 : decode cJ2_getChar_3b067 24 = .ok (.invokespecial 56, 3) := by decide +kernel
theorem dJ2_getChar_3b067_27 : decode cJ2_getChar_3b067 27 = .ok (.athrow, 1) := by decide +kernel
theorem dJ2_getChar_3b067_28 : decode cJ2_getChar_3b067 28 = .ok (.iload_n 1, 1) := by decide +kernel
theorem dJ2_getChar_3b067_29 : decode cJ2_getChar_3b067 29 = .ok (.iconst 1, 1) := by decide +kernel
theorem dJ2_getChar_3b067_30 : decode cJ2_getChar_3b067 30 = .ok (.ishl, 1) := by decide +kernel
theorem dJ2_getChar_3b067_31 : decode cJ2_getChar_3b067 31 = .ok (.istore_n 1, 1) := by decide +kernel
theorem dJ2_getChar_3b067_32 : decode cJ2_getChar_3b067 32 = .ok (.aload_n 0, 1) := by decide +kernel
theorem dJ2_getChar_3b067_33 : decode cJ2_getChar_3b067 33 = .ok (.iload_n 1, 1) := by decide +kernel
theorem dJ2_getChar_3b067_34 : decode cJ2_getChar_3b067 34 = .ok (.iinc 1 1, 3) := by decide +kernel
theorem dJ2_getChar_3b067_37 : decode cJ2_getChar_3b067 37 = .ok (.baload, 1) := by decide +kernel
theorem dJ2_getChar_3b067_38 : decode cJ2_getChar_3b067 38 = .ok (.sipush 255, 3) := by decide +kernel
theorem dJ2_getChar_3b067_41 : decode cJ2_getChar_3b067 41 = .ok (.iand, 1) := by decide +kernel
theorem dJ2_getChar_3b067_42 : decode cJ2_getChar_3b067 42 = .ok (.getstatic 59, 3) := by decide +kernel
theorem dJ2_getChar_3b067_45 : decode cJ2_getChar_3b067 45 = .ok (.ishl, 1) := by decide +kernel
theorem dJ2_getChar_3b067_46 : decode cJ2_getChar_3b067 46 = .ok (.aload_n 0, 1) := by decide +kernel
theorem dJ2_getChar_3b067_47 : decode cJ2_getChar_3b067 47 = .ok (.iload_n 1, 1) := by decide +kernel
theorem dJ2_getChar_3b067_48 : decode cJ2_getChar_3b067 48 = .ok (.baload, 1) := by decide +kernel
theorem dJ2_getChar_3b067_49 : decode cJ2_getChar_3b067 49 = .ok (.sipush 255, 3) := by decide +kernel
theorem dJ2_getChar_3b067_52 : decode cJ2_getChar_3b067 52 = .ok (.iand, 1) := by decide +kernel
theorem dJ2_getChar_3b067_53 : decode cJ2_getChar_3b067 53 = .ok (.getstatic 63, 3) := by decide +kernel
