theorem dX0_hunger_0 : decode cX0_hunger 0 = .ok (.iload_n 3, 1) := by decide +kernel
theorem dX0_hunger_1 : decode cX0_hunger 1 = .ok (.iconst 3, 1) := by decide +kernel
theorem dX0_hunger_2 : decode cX0_hunger 2 = .ok (.if_icmp .ne 7, 3) := by decide +kernel
theorem dX0_hunger_5 : decode cX0_hunger 5 = .ok (.iconst 0, 1) := by decide +kernel
theorem dX0_hunger_6 : decode cX0_hunger 6 = .ok (.goto 4, 3) := by decide +kernel
theorem dX0_hunger_9 : decode cX0_hunger 9 = .ok (.iload_n 1, 1) := by decide +kernel
theorem dX0_hunger_10 : decode cX0_hunger 10 = .ok (.istore 4, 2) := by decide +kernel
theorem dX0_hunger_12 : decode cX0_hunger 12 = .ok (.iconst 2, 1) := by decide +kernel
theorem dX0_hunger_13 : decode cX0_hunger 13 = .ok (.iload_n 1, 1) := by decide +kernel
theorem dX0_hunger_14 : decode cX0_hunger 14 = .ok (.imul, 1) := by decide +kernel
theorem dX0_hunger_15 : decode cX0_hunger 15 = .ok (.istore 5, 2) := by decide +kernel
theorem dX0_hunger_17 : decode cX0_hunger 17 = .ok (.iload_n 0, 1) := by decide +kernel
theorem dX0_hunger_18 : decode cX0_hunger 18 = .ok (.tableswitch 73 1 5 #[34, 37, 40, 53, 67], 34) := by decide +kernel
theorem dX0_hunger_52 : decode cX0_hunger 52 = .ok (.iload 4, 2) := by decide +kernel
theorem dX0_hunger_54 : decode cX0_hunger 54 = .ok (.ireturn, 1) := by decide +kernel
theorem dX0_hunger_55 : decode cX0_hunger 55 = .ok (.iload 5, 2) := by decide +kernel
theorem dX0_hunger_57 : decode cX0_hunger 57 = .ok (.ireturn, 1) := by decide +kernel
theorem dX0_hunger_58 : decode cX0_hunger 58 = .ok (.iload 5, 2) := by decide +kernel
theorem dX0_hunger_60 : decode cX0_hunger 60 = .ok (.iload_n 2, 1) := by decide +kernel
theorem dX0_hunger_61 : decode cX0_hunger 61 = .ok (.ifCond .ne 7, 3) := by decide +kernel
theorem dX0_hunger_64 : decode cX0_hunger 64 = .ok (.iconst 5, 1) := by decide +kernel
theorem dX0_hunger_65 : decode cX0_hunger 65 = .ok (.goto 4, 3) := by decide +kernel
theorem dX0_hunger_68 : decode cX0_hunger 68 = .ok (.iconst 0, 1) := by decide +kernel
theorem dX0_hunger_69 : decode cX0_hunger 69 = .ok (.iadd, 1) := by decide +kernel
theorem dX0_hunger_70 : decode cX0_hunger 70 = .ok (.ireturn, 1) := by decide +kernel
theorem dX0_hunger_71 : decode cX0_hunger 71 = .ok (.iload 4, 2) := by decide +kernel
theorem dX0_hunger_73 : decode cX0_hunger 73 = .ok (.iload_n 3, 1) := by decide +kernel
theorem dX0_hunger_74 : decode cX0_hunger 74 = .ok (.iconst 1, 1) := by decide +kernel
theorem dX0_hunger_75 : decode cX0_hunger 75 = .ok (.if_icmp .ne 7, 3) := by decide +kernel
theorem dX0_hunger_78 : decode cX0_hunger 78 = .ok (.iconst 3, 1) := by decide +kernel
theorem dX0_hunger_79 : decode cX0_hunger 79 = .ok (.goto 4, 3) := by decide +kernel
theorem dX0_hunger_82 : decode cX0_hunger 82 = .ok (.iconst 0, 1) := by decide +kernel
theorem dX0_hunger_83 : decode cX0_hunger 83 = .ok (.iadd, 1) := by decide +kernel
theorem dX0_hunger_84 : decode cX0_hunger 84 = .ok (.ireturn, 1) := by decide +kernel
theorem dX0_hunger_85 : decode cX0_hunger 85 = .ok (.iload 5, 2) := by decide +kernel
theorem dX0_hunger_87 : decode cX0_hunger 87 = .ok (.bipush 7, 2) := by decide +kernel
theorem dX0_hunger_89 : decode cX0_hunger 89 = .ok (.irem, 1) := by decide +kernel
theorem dX0_hunger_90 : decode cX0_hunger 90 = .ok (.ireturn, 1) := by decide +kernel
theorem dX0_hunger_91 : decode cX0_hunger 91 = .ok (.iload_n 1, 1) := by decide +kernel
theorem dX0_hunger_92 : decode cX0_hunger 92 = .ok (.ireturn, 1) := by decide +kernel
theorem dX1_init_0 : decode cX1_init 0 = .ok (.aload_n 0, 1) := by decide +kernel
theorem dX1_init_1 : decode cX1_init 1 = .ok (.invokespecial 3, 3) := by decide +kernel
theorem dX1_init_4 : decode cX1_init 4 = .ok (.aload_n 0, 1) := by decide +kernel
theorem dX1_init_5 : decode cX1_init 5 = .ok (.sipush 200, 3) := by decide +kernel
theorem dX1_init_8 : decode cX1_init 8 = .ok (.newarray .byte, 2) := by decide +kernel
theorem dX1_init_10 : decode cX1_init 10 = .ok (.putfield 11, 3) := by decide +kernel
theorem dX1_init_13 : decode cX1_init 13 = .ok (.aload_n 0, 1) := by decide +kernel
theorem dX1_init_14 : decode cX1_init 14 = .ok (.iconst 3, 1) := by decide +kernel
theorem dX1_init_15 : decode cX1_init 15 = .ok (.newarray .int, 2) := by decide +kernel
theorem dX1_init_17 : decode cX1_init 17 = .ok (.putfield 15, 3) := by decide +kernel
theorem dX1_init_20 : decode cX1_init 20 = .ok (.return_, 1) := by decide +kernel
theorem dX1_append_0 : decode cX1_append 0 = .ok (.iload_n 3, 1) := by decide +kernel
theorem dX1_append_1 : decode cX1_append 1 = .ok (.iconst 1, 1) := by decide +kernel
theorem dX1_append_2 : decode cX1_append 2 = .ok (.if_icmp .lt 9, 3) := by decide +kernel
theorem dX1_append_5 : decode cX1_append 5 = .ok (.iload_n 3, 1) := by decide +kernel
theorem dX1_append_6 : decode cX1_append 6 = .ok (.bipush 8, 2) := by decide +kernel
theorem dX1_append_8 : decode cX1_append 8 = .ok (.if_icmp .le 6, 3) := by decide +kernel
theorem dX1_append_11 : decode cX1_append 11 = .ok (.bipush (-2), 2) := by decide +kernel
theorem dX1_append_13 : decode cX1_append 13 = .ok (.ireturn, 1) := by decide +kernel
theorem dX1_append_14 : decode cX1_append 14 = .ok (.aload_n 0, 1) := by decide +kernel
theorem dX1_append_15 : decode cX1_append 15 = .ok (.getfield 19, 3) := by decide +kernel
theorem dX1_append_18 : decode cX1_append 18 = .ok (.iload_n 3, 1) := by decide +kernel
theorem dX1_append_19 : decode cX1_append 19 = .ok (.iadd, 1) := by decide +kernel
theorem dX1_append_20 : decode cX1_append 20 = .ok (.sipush 200, 3) := by decide +kernel
theorem dX1_append_23 : decode cX1_append 23 = .ok (.if_icmp .le 6, 3) := by decide +kernel
theorem dX1_append_26 : decode cX1_append 26 = .ok (.bipush (-4), 2) := by decide +kernel
theorem dX1_append_28 : decode cX1_append 28 = .ok (.ireturn, 1) := by decide +kernel
theorem dX1_append_29 : decode cX1_append 29 = .ok (.iload_n 3, 1) := by decide +kernel
theorem dX1_append_30 : decode cX1_append 30 = .ok (.iconst 1, 1) := by decide +kernel
theorem dX1_append_31 : decode cX1_append 31 = .ok (.isub, 1) := by decide +kernel
theorem dX1_append_32 : decode cX1_append 32 = .ok (.istore 4, 2) := by decide +kernel
theorem dX1_append_34 : decode cX1_append 34 = .ok (.iload 4, 2) := by decide +kernel
theorem dX1_append_36 : decode cX1_append 36 = .ok (.ifCond .lt 37, 3) := by decide +kernel
theorem dX1_append_39 : decode cX1_append 39 = .ok (.aload_n 0, 1) := by decide +kernel
theorem dX1_append_40 : decode cX1_append 40 = .ok (.getfield 11, 3) := by decide +kernel
theorem dX1_append_43 : decode cX1_append 43 = .ok (.aload_n 0, 1) := by decide +kernel
theorem dX1_append_44 : decode cX1_append 44 = .ok (.getfield 19, 3) := by decide +kernel
theorem dX1_append_47 : decode cX1_append 47 = .ok (.lload_n 1, 1) := by decide +kernel
theorem dX1_append_48 : decode cX1_append 48 = .ok (.bipush 8, 2) := by decide +kernel
theorem dX1_append_50 : decode cX1_append 50 = .ok (.iload 4, 2) := by decide +kernel
theorem dX1_append_52 : decode cX1_append 52 = .ok (.imul, 1) := by decide +kernel
theorem dX1_append_53 : decode cX1_append 53 = .ok (.lshr, 1) := by decide +kernel
theorem dX1_append_54 : decode cX1_append 54 = .ok (.l2i, 1) := by decide +kernel
theorem dX1_append_55 : decode cX1_append 55 = .ok (.i2b, 1) := by decide +kernel
theorem dX1_append_56 : decode cX1_append 56 = .ok (.bastore, 1) := by decide +kernel
theorem dX1_append_57 : decode cX1_append 57 = .ok (.aload_n 0, 1) := by decide +kernel
theorem dX1_append_58 : decode cX1_append 58 = .ok (.dup, 1) := by decide +kernel
theorem dX1_append_59 : decode cX1_append 59 = .ok (.getfield 19, 3) := by decide +kernel
theorem dX1_append_62 : decode cX1_append 62 = .ok (.iconst 1, 1) := by decide +kernel
theorem dX1_append_63 : decode cX1_append 63 = .ok (.iadd, 1) := by decide +kernel
theorem dX1_append_64 : decode cX1_append 64 = .ok (.putfield 19, 3) := by decide +kernel
theorem dX1_append_67 : decode cX1_append 67 = .ok (.iinc 4 (-1), 3) := by decide +kernel
theorem dX1_append_70 : decode cX1_append 70 = .ok (.goto (-36), 3) := by decide +kernel
theorem dX1_append_73 : decode cX1_append 73 = .ok (.aload_n 0, 1) := by decide +kernel
theorem dX1_append_74 : decode cX1_append 74 = .ok (.getfield 19, 3) := by decide +kernel
theorem dX1_append_77 : decode cX1_append 77 = .ok (.ireturn, 1) := by decide +kernel
theorem dX1_empty_0 : decode cX1_empty 0 = .ok (.aload_n 0, 1) := by decide +kernel
theorem dX1_empty_1 : decode cX1_empty 1 = .ok (.getfield 19, 3) := by decide +kernel
theorem dX1_empty_4 : decode cX1_empty 4 = .ok (.istore_n 1, 1) := by decide +kernel
theorem dX1_empty_5 : decode cX1_empty 5 = .ok (.aload_n 0, 1) := by decide +kernel
theorem dX1_empty_6 : decode cX1_empty 6 = .ok (.iconst 0, 1) := by decide +kernel
theorem dX1_empty_7 : decode cX1_empty 7 = .ok (.putfield 19, 3) := by decide +kernel
theorem dX1_empty_10 : decode cX1_empty 10 = .ok (.iload_n 1, 1) := by decide +kernel
theorem dX1_empty_11 : decode cX1_empty 11 = .ok (.ireturn, 1) := by decide +kernel
set_option maxRecDepth 20000 in
theorem ggX1_tellTo_X4_startAnew : GoodIn wsX1_tellTo wsX4_startAnew := goodIn_r _ [10, 11, 12, 13, 14, 15, 16, 17, 154, 155, 156, 157, 158, 159, 160, 161, 162, 163, 164, 165, 166, 167] (by decide +kernel) (by decide +kernel)
set_option maxRecDepth 20000 in
theorem gX1_tellTo_X4_startAnew : GoodIn wsX1_tellTo (wsV RX1 23 RX4 yX4_startAnew wsX4_startAnew) := goodIn_app (goodIn_of _ (by decide +kernel)) ggX1_tellTo_X4_startAnew
set_option maxRecDepth 20000 in
theorem ggX1_tellTo_X1_nextToken : GoodIn wsX1_tellTo wsX1_nextToken := goodIn_r _ [22, 1, 5, 23, 4, 2, 24, 25, 21, 26, 27, 28, 29, 30, 3, 31, 32, 33, 34, 35, 36, 37, 38, 39, 40, 41, 42, 43, 44, 45, 46, 47, 48, 49, 50, 51, 52, 53, 54, 55, 56, 57, 58, 59, 60, 61, 62, 63, 64, 65, 66, 67, 68, 69, 70, 71, 72, 73, 74, 75, 76, 77, 78, 79, 80, 81, 82, 83, 84, 85, 86, 87, 88, 89, 90, 91, 92, 93, 147, 148, 149, 150, 151, 152, 153] (by decide +kernel) (by decide +kernel)
set_option maxRecDepth 20000 in
theorem gX1_tellTo_X1_nextToken : GoodIn wsX1_tellTo (wsV RX1 31 RX1 yX1_nextToken wsX1_nextToken) := goodIn_app (goodIn_of _ (by decide +kernel)) ggX1_tellTo_X1_nextToken
set_option maxRecDepth 20000 in
theorem ggX1_tellTo_X1_numbersOf : GoodIn wsX1_tellTo wsX1_numbersOf := goodIn_r _ [96] (by decide +kernel) (by decide +kernel)
set_option maxRecDepth 20000 in
theorem gX1_tellTo_X1_numbersOf : GoodIn wsX1_tellTo (va_wsS RX1 40 yX1_numbersOf wsX1_numbersOf) := goodIn_app (goodIn_of _ (by decide +kernel)) ggX1_tellTo_X1_numbersOf
set_option maxRecDepth 20000 in
theorem ggX1_tellTo_X1_readNumbers : GoodIn wsX1_tellTo wsX1_readNumbers := goodIn_r _ [100, 101, 2, 3, 18, 19, 20, 21, 22, 1, 5, 23, 4, 24, 25, 26, 27, 28, 29, 30, 31, 32, 33, 34, 35, 36, 37, 38, 39, 40, 41, 42, 43, 44, 45, 46, 47, 48, 49, 50, 51, 52, 53, 54, 55, 56, 57, 58, 59, 60, 61, 62, 63, 64, 65, 66, 67, 68, 69, 70, 71, 72, 73, 74, 75, 76, 77, 78, 79, 80, 81, 82, 83, 84, 85, 86, 87, 88, 89, 90, 91, 92, 93, 147, 148, 149, 150, 151, 152, 153] (by decide +kernel) (by decide +kernel)
set_option maxRecDepth 20000 in
theorem gX1_tellTo_X1_readNumbers : GoodIn wsX1_tellTo (wsV RX1 44 RX1 yX1_readNumbers wsX1_readNumbers) := goodIn_app (goodIn_of _ (by decide +kernel)) ggX1_tellTo_X1_readNumbers
set_option maxRecDepth 20000 in
theorem ggX1_tellTo_X1_tellItem : GoodIn wsX1_tellTo wsX1_tellItem := goodIn_r _ [105, 101, 106, 107, 108, 9, 109, 13, 11, 110, 111, 112, 113, 17, 114, 115, 116, 117, 12, 118, 119, 120, 121, 122, 123, 124, 125, 126, 127, 128, 129, 130, 131, 132, 133, 134, 135, 136, 137, 138, 14, 139, 140, 141, 142, 15, 143, 144, 145, 146, 16, 147, 148, 149, 150, 151, 152, 153, 154, 155, 156, 157, 158, 159, 160, 161, 162, 163, 164, 165, 166, 167] (by decide +kernel) (by decide +kernel)
set_option maxRecDepth 20000 in
theorem gX1_tellTo_X1_tellItem : GoodIn wsX1_tellTo (wsV RX1 51 RX1 yX1_tellItem wsX1_tellItem) := goodIn_app (goodIn_of _ (by decide +kernel)) ggX1_tellTo_X1_tellItem
theorem dX1_tellTo_0 : decode cX1_tellTo 0 = .ok (.aload_n 1, 1) := by decide +kernel
theorem dX1_tellTo_1 : decode cX1_tellTo 1 = .ok (.invokevirtual 23, 3) := by decide +kernel
theorem dX1_tellTo_4 : decode cX1_tellTo 4 = .ok (.aload_n 0, 1) := by decide +kernel
theorem dX1_tellTo_5 : decode cX1_tellTo 5 = .ok (.iconst 0, 1) := by decide +kernel
theorem dX1_tellTo_6 : decode cX1_tellTo 6 = .ok (.putfield 28, 3) := by decide +kernel
theorem dX1_tellTo_9 : decode cX1_tellTo 9 = .ok (.iconst (-1), 1) := by decide +kernel
theorem dX1_tellTo_10 : decode cX1_tellTo 10 = .ok (.istore_n 2, 1) := by decide +kernel
theorem dX1_tellTo_11 : decode cX1_tellTo 11 = .ok (.iconst 0, 1) := by decide +kernel
theorem dX1_tellTo_12 : decode cX1_tellTo 12 = .ok (.istore_n 3, 1) := by decide +kernel
theorem dX1_tellTo_13 : decode cX1_tellTo 13 = .ok (.iload_n 3, 1) := by decide +kernel
theorem dX1_tellTo_14 : decode cX1_tellTo 14 = .ok (.sipush 200, 3) := by decide +kernel
theorem dX1_tellTo_17 : decode cX1_tellTo 17 = .ok (.if_icmp .gt 87, 3) := by decide +kernel
theorem dX1_tellTo_20 : decode cX1_tellTo 20 = .ok (.aload_n 0, 1) := by decide +kernel
theorem dX1_tellTo_21 : decode cX1_tellTo 21 = .ok (.invokevirtual 31, 3) := by decide +kernel
theorem dX1_tellTo_24 : decode cX1_tellTo 24 = .ok (.aload_n 0, 1) := by decide +kernel
theorem dX1_tellTo_25 : decode cX1_tellTo 25 = .ok (.getfield 34, 3) := by decide +kernel
theorem dX1_tellTo_28 : decode cX1_tellTo 28 = .ok (.ifCond .ne 18, 3) := by decide +kernel
theorem dX1_tellTo_31 : decode cX1_tellTo 31 = .ok (.iload_n 2, 1) := by decide +kernel
theorem dX1_tellTo_32 : decode cX1_tellTo 32 = .ok (.iconst (-1), 1) := by decide +kernel
theorem dX1_tellTo_33 : decode cX1_tellTo 33 = .ok (.if_icmp .ne 7, 3) := by decide +kernel
theorem dX1_tellTo_36 : decode cX1_tellTo 36 = .ok (.iload_n 3, 1) := by decide +kernel
theorem dX1_tellTo_37 : decode cX1_tellTo 37 = .ok (.goto 8, 3) := by decide +kernel
theorem dX1_tellTo_40 : decode cX1_tellTo 40 = .ok (.sipush (-1000), 3) := by decide +kernel
theorem dX1_tellTo_43 : decode cX1_tellTo 43 = .ok (.iload_n 2, 1) := by decide +kernel
theorem dX1_tellTo_44 : decode cX1_tellTo 44 = .ok (.isub, 1) := by decide +kernel
theorem dX1_tellTo_45 : decode cX1_tellTo 45 = .ok (.ireturn, 1) := by decide +kernel
theorem dX1_tellTo_46 : decode cX1_tellTo 46 = .ok (.aload_n 0, 1) := by decide +kernel
theorem dX1_tellTo_47 : decode cX1_tellTo 47 = .ok (.getfield 37, 3) := by decide +kernel
theorem dX1_tellTo_50 : decode cX1_tellTo 50 = .ok (.istore 4, 2) := by decide +kernel
theorem dX1_tellTo_52 : decode cX1_tellTo 52 = .ok (.aload_n 0, 1) := by decide +kernel
theorem dX1_tellTo_53 : decode cX1_tellTo 53 = .ok (.getfield 34, 3) := by decide +kernel
theorem dX1_tellTo_56 : decode cX1_tellTo 56 = .ok (.iconst 1, 1) := by decide +kernel
theorem dX1_tellTo_57 : decode cX1_tellTo 57 = .ok (.if_icmp .ne 15, 3) := by decide +kernel
theorem dX1_tellTo_60 : decode cX1_tellTo 60 = .ok (.aload_n 0, 1) := by decide +kernel
theorem dX1_tellTo_61 : decode cX1_tellTo 61 = .ok (.iload 4, 2) := by decide +kernel
theorem dX1_tellTo_63 : decode cX1_tellTo 63 = .ok (.invokestatic 40, 3) := by decide +kernel
theorem dX1_tellTo_66 : decode cX1_tellTo 66 = .ok (.invokevirtual 44, 3) := by decide +kernel
theorem dX1_tellTo_69 : decode cX1_tellTo 69 = .ok (.ifCond .ne 11, 3) := by decide +kernel
theorem dX1_tellTo_72 : decode cX1_tellTo 72 = .ok (.bipush (-10), 2) := by decide +kernel
theorem dX1_tellTo_74 : decode cX1_tellTo 74 = .ok (.aload_n 0, 1) := by decide +kernel
theorem dX1_tellTo_75 : decode cX1_tellTo 75 = .ok (.getfield 48, 3) := by decide +kernel
theorem dX1_tellTo_78 : decode cX1_tellTo 78 = .ok (.isub, 1) := by decide +kernel
theorem dX1_tellTo_79 : decode cX1_tellTo 79 = .ok (.ireturn, 1) := by decide +kernel
theorem dX1_tellTo_80 : decode cX1_tellTo 80 = .ok (.iload_n 2, 1) := by decide +kernel
theorem dX1_tellTo_81 : decode cX1_tellTo 81 = .ok (.iconst (-1), 1) := by decide +kernel
theorem dX1_tellTo_82 : decode cX1_tellTo 82 = .ok (.if_icmp .ne 16, 3) := by decide +kernel
theorem dX1_tellTo_85 : decode cX1_tellTo 85 = .ok (.aload_n 0, 1) := by decide +kernel
theorem dX1_tellTo_86 : decode cX1_tellTo 86 = .ok (.aload_n 1, 1) := by decide +kernel
theorem dX1_tellTo_87 : decode cX1_tellTo 87 = .ok (.iload 4, 2) := by decide +kernel
theorem dX1_tellTo_89 : decode cX1_tellTo 89 = .ok (.invokevirtual 51, 3) := by decide +kernel
theorem dX1_tellTo_92 : decode cX1_tellTo 92 = .ok (.iconst (-1), 1) := by decide +kernel
theorem dX1_tellTo_93 : decode cX1_tellTo 93 = .ok (.if_icmp .ge 5, 3) := by decide +kernel
theorem dX1_tellTo_96 : decode cX1_tellTo 96 = .ok (.iload_n 3, 1) := by decide +kernel
theorem dX1_tellTo_97 : decode cX1_tellTo 97 = .ok (.istore_n 2, 1) := by decide +kernel
theorem dX1_tellTo_98 : decode cX1_tellTo 98 = .ok (.iinc 3 1, 3) := by decide +kernel
theorem dX1_tellTo_101 : decode cX1_tellTo 101 = .ok (.goto (-88), 3) := by decide +kernel
theorem dX1_tellTo_104 : decode cX1_tellTo 104 = .ok (.bipush (-10), 2) := by decide +kernel
theorem dX1_tellTo_106 : decode cX1_tellTo 106 = .ok (.aload_n 0, 1) := by decide +kernel
theorem dX1_tellTo_107 : decode cX1_tellTo 107 = .ok (.getfield 19, 3) := by decide +kernel
theorem dX1_tellTo_110 : decode cX1_tellTo 110 = .ok (.isub, 1) := by decide +kernel
theorem dX1_tellTo_111 : decode cX1_tellTo 111 = .ok (.ireturn, 1) := by decide +kernel
set_option maxRecDepth 20000 in
theorem ggX1_tellItem_X4_addBolt : GoodIn wsX1_tellItem wsX4_addBolt := goodIn_r _ [6, 7, 8, 9, 10, 11, 12, 13, 58, 59, 60, 61, 62, 63, 64, 65, 66, 67, 68, 69, 70, 71] (by decide +kernel) (by decide +kernel)
set_option maxRecDepth 20000 in
theorem gX1_tellItem_X4_addBolt : GoodIn wsX1_tellItem (wsV RX1 55 RX4 yX4_addBolt wsX4_addBolt) := goodIn_app (goodIn_of _ (by decide +kernel)) ggX1_tellItem_X4_addBolt
set_option maxRecDepth 20000 in
theorem ggX1_tellItem_X4_addMoth : GoodIn wsX1_tellItem wsX4_addMoth := goodIn_r _ [17, 18, 19, 13, 58, 59, 60, 61, 62, 63, 64, 65, 66, 67, 68, 69, 70, 71] (by decide +kernel) (by decide +kernel)
set_option maxRecDepth 20000 in
theorem gX1_tellItem_X4_addMoth : GoodIn wsX1_tellItem (wsV RX1 59 RX4 yX4_addMoth wsX4_addMoth) := goodIn_app (goodIn_of _ (by decide +kernel)) ggX1_tellItem_X4_addMoth
set_option maxRecDepth 20000 in
theorem ggX1_tellItem_X4_setTaste : GoodIn wsX1_tellItem wsX4_setTaste := goodIn_r _ [23, 7, 58, 59, 60, 61, 62, 63, 64, 65, 66, 67, 68, 69, 70, 71] (by decide +kernel) (by decide +kernel)
set_option maxRecDepth 20000 in
theorem gX1_tellItem_X4_setTaste : GoodIn wsX1_tellItem (wsV RX1 62 RX4 yX4_setTaste wsX4_setTaste) := goodIn_app (goodIn_of _ (by decide +kernel)) ggX1_tellItem_X4_setTaste
set_option maxRecDepth 20000 in
theorem ggX1_tellItem_X4_setHoles : GoodIn wsX1_tellItem wsX4_setHoles := goodIn_r _ [27, 12, 28, 29, 30, 5, 31, 8, 58, 59, 60, 61, 62, 63, 64, 65, 66, 67, 68, 69, 70, 71] (by decide +kernel) (by decide +kernel)
set_option maxRecDepth 20000 in
theorem gX1_tellItem_X4_setHoles : GoodIn wsX1_tellItem (wsV RX1 66 RX4 yX4_setHoles wsX4_setHoles) := goodIn_app (goodIn_of _ (by decide +kernel)) ggX1_tellItem_X4_setHoles
set_option maxRecDepth 20000 in
theorem ggX1_tellItem_X4_setTerm : GoodIn wsX1_tellItem wsX4_setTerm := goodIn_r _ [35, 36, 37, 38, 5, 39, 40, 13, 41, 42, 43, 44, 45, 46, 47, 48, 49, 50, 58, 59, 60, 61, 62, 63, 64, 65, 66, 67, 68, 69, 70, 71] (by decide +kernel) (by decide +kernel)
set_option maxRecDepth 20000 in
theorem gX1_tellItem_X4_setTerm : GoodIn wsX1_tellItem (wsV RX1 69 RX4 yX4_setTerm wsX4_setTerm) := goodIn_app (goodIn_of _ (by decide +kernel)) ggX1_tellItem_X4_setTerm
theorem dX1_tellItem_0 : decode cX1_tellItem 0 = .ok (.iload_n 2, 1) := by decide +kernel
theorem dX1_tellItem_1 : decode cX1_tellItem 1 = .ok (.tableswitch 111 0 6 #[43, 66, 77, 111, 111, 111, 94], 43) := by decide +kernel
theorem dX1_tellItem_44 : decode cX1_tellItem 44 = .ok (.aload_n 1, 1) := by decide +kernel
theorem dX1_tellItem_45 : decode cX1_tellItem 45 = .ok (.aload_n 0, 1) := by decide +kernel
theorem dX1_tellItem_46 : decode cX1_tellItem 46 = .ok (.getfield 15, 3) := by decide +kernel
theorem dX1_tellItem_49 : decode cX1_tellItem 49 = .ok (.iconst 0, 1) := by decide +kernel
theorem dX1_tellItem_50 : decode cX1_tellItem 50 = .ok (.iaload, 1) := by decide +kernel
theorem dX1_tellItem_51 : decode cX1_tellItem 51 = .ok (.aload_n 0, 1) := by decide +kernel
theorem dX1_tellItem_52 : decode cX1_tellItem 52 = .ok (.getfield 15, 3) := by decide +kernel
theorem dX1_tellItem_55 : decode cX1_tellItem 55 = .ok (.iconst 1, 1) := by decide +kernel
theorem dX1_tellItem_56 : decode cX1_tellItem 56 = .ok (.iaload, 1) := by decide +kernel
theorem dX1_tellItem_57 : decode cX1_tellItem 57 = .ok (.aload_n 0, 1) := by decide +kernel
theorem dX1_tellItem_58 : decode cX1_tellItem 58 = .ok (.getfield 15, 3) := by decide +kernel
theorem dX1_tellItem_61 : decode cX1_tellItem 61 = .ok (.iconst 2, 1) := by decide +kernel
theorem dX1_tellItem_62 : decode cX1_tellItem 62 = .ok (.iaload, 1) := by decide +kernel
theorem dX1_tellItem_63 : decode cX1_tellItem 63 = .ok (.invokevirtual 55, 3) := by decide +kernel
theorem dX1_tellItem_66 : decode cX1_tellItem 66 = .ok (.ireturn, 1) := by decide +kernel
theorem dX1_tellItem_67 : decode cX1_tellItem 67 = .ok (.aload_n 1, 1) := by decide +kernel
theorem dX1_tellItem_68 : decode cX1_tellItem 68 = .ok (.aload_n 0, 1) := by decide +kernel
theorem dX1_tellItem_69 : decode cX1_tellItem 69 = .ok (.getfield 15, 3) := by decide +kernel
theorem dX1_tellItem_72 : decode cX1_tellItem 72 = .ok (.iconst 0, 1) := by decide +kernel
theorem dX1_tellItem_73 : decode cX1_tellItem 73 = .ok (.iaload, 1) := by decide +kernel
theorem dX1_tellItem_74 : decode cX1_tellItem 74 = .ok (.invokevirtual 59, 3) := by decide +kernel
theorem dX1_tellItem_77 : decode cX1_tellItem 77 = .ok (.ireturn, 1) := by decide +kernel
theorem dX1_tellItem_78 : decode cX1_tellItem 78 = .ok (.aload_n 1, 1) := by decide +kernel
theorem dX1_tellItem_79 : decode cX1_tellItem 79 = .ok (.aload_n 0, 1) := by decide +kernel
theorem dX1_tellItem_80 : decode cX1_tellItem 80 = .ok (.getfield 15, 3) := by decide +kernel
theorem dX1_tellItem_83 : decode cX1_tellItem 83 = .ok (.iconst 0, 1) := by decide +kernel
theorem dX1_tellItem_84 : decode cX1_tellItem 84 = .ok (.iaload, 1) := by decide +kernel
theorem dX1_tellItem_85 : decode cX1_tellItem 85 = .ok (.aload_n 0, 1) := by decide +kernel
theorem dX1_tellItem_86 : decode cX1_tellItem 86 = .ok (.getfield 15, 3) := by decide +kernel
theorem dX1_tellItem_89 : decode cX1_tellItem 89 = .ok (.iconst 1, 1) := by decide +kernel
theorem dX1_tellItem_90 : decode cX1_tellItem 90 = .ok (.iaload, 1) := by decide +kernel
theorem dX1_tellItem_91 : decode cX1_tellItem 91 = .ok (.invokevirtual 62, 3) := by decide +kernel
theorem dX1_tellItem_94 : decode cX1_tellItem 94 = .ok (.ireturn, 1) := by decide +kernel
theorem dX1_tellItem_95 : decode cX1_tellItem 95 = .ok (.aload_n 1, 1) := by decide +kernel
theorem dX1_tellItem_96 : decode cX1_tellItem 96 = .ok (.aload_n 0, 1) := by decide +kernel
theorem dX1_tellItem_97 : decode cX1_tellItem 97 = .ok (.getfield 15, 3) := by decide +kernel
theorem dX1_tellItem_100 : decode cX1_tellItem 100 = .ok (.iconst 0, 1) := by decide +kernel
theorem dX1_tellItem_101 : decode cX1_tellItem 101 = .ok (.iaload, 1) := by decide +kernel
theorem dX1_tellItem_102 : decode cX1_tellItem 102 = .ok (.aload_n 0, 1) := by decide +kernel
theorem dX1_tellItem_103 : decode cX1_tellItem 103 = .ok (.getfield 15, 3) := by decide +kernel
theorem dX1_tellItem_106 : decode cX1_tellItem 106 = .ok (.iconst 1, 1) := by decide +kernel
theorem dX1_tellItem_107 : decode cX1_tellItem 107 = .ok (.iaload, 1) := by decide +kernel
theorem dX1_tellItem_108 : decode cX1_tellItem 108 = .ok (.invokevirtual 66, 3) := by decide +kernel
theorem dX1_tellItem_111 : decode cX1_tellItem 111 = .ok (.ireturn, 1) := by decide +kernel
theorem dX1_tellItem_112 : decode cX1_tellItem 112 = .ok (.aload_n 1, 1) := by decide +kernel
theorem dX1_tellItem_113 : decode cX1_tellItem 113 = .ok (.iload_n 2, 1) := by decide +kernel
theorem dX1_tellItem_114 : decode cX1_tellItem 114 = .ok (.iconst 3, 1) := by decide +kernel
theorem dX1_tellItem_115 : decode cX1_tellItem 115 = .ok (.isub, 1) := by decide +kernel
theorem dX1_tellItem_116 : decode cX1_tellItem 116 = .ok (.aload_n 0, 1) := by decide +kernel
theorem dX1_tellItem_117 : decode cX1_tellItem 117 = .ok (.getfield 15, 3) := by decide +kernel
theorem dX1_tellItem_120 : decode cX1_tellItem 120 = .ok (.iconst 0, 1) := by decide +kernel
theorem dX1_tellItem_121 : decode cX1_tellItem 121 = .ok (.iaload, 1) := by decide +kernel
theorem dX1_tellItem_122 : decode cX1_tellItem 122 = .ok (.invokevirtual 69, 3) := by decide +kernel
theorem dX1_tellItem_125 : decode cX1_tellItem 125 = .ok (.ireturn, 1) := by decide +kernel
theorem dX1_numbersOf_0 : decode cX1_numbersOf 0 = .ok (.iload_n 0, 1) := by decide +kernel
theorem dX1_numbersOf_1 : decode cX1_numbersOf 1 = .ok (.lookupswitch 39 #[(0, 35), (2, 37), (6, 37)], 35) := by decide +kernel
theorem dX1_numbersOf_36 : decode cX1_numbersOf 36 = .ok (.iconst 3, 1) := by decide +kernel
theorem dX1_numbersOf_37 : decode cX1_numbersOf 37 = .ok (.ireturn, 1) := by decide +kernel
theorem dX1_numbersOf_38 : decode cX1_numbersOf 38 = .ok (.iconst 2, 1) := by decide +kernel
theorem dX1_numbersOf_39 : decode cX1_numbersOf 39 = .ok (.ireturn, 1) := by decide +kernel
theorem dX1_numbersOf_40 : decode cX1_numbersOf 40 = .ok (.iconst 1, 1) := by decide +kernel
theorem dX1_numbersOf_41 : decode cX1_numbersOf 41 = .ok (.ireturn, 1) := by decide +kernel
set_option maxRecDepth 20000 in
theorem ggX1_readNumbers_X1_nextToken : GoodIn wsX1_readNumbers wsX1_nextToken := goodIn_r _ [8, 9, 10, 11, 12, 2, 13, 14, 7, 15, 16, 17, 18, 19, 3, 20, 21, 22, 23, 24, 25, 26, 27, 28, 29, 30, 31, 32, 33, 34, 35, 36, 37, 38, 39, 40, 41, 42, 43, 44, 45, 46, 47, 48, 49, 50, 51, 52, 53, 54, 55, 56, 57, 58, 59, 60, 61, 62, 63, 64, 65, 66, 67, 68, 69, 70, 71, 72, 73, 74, 75, 76, 77, 78, 79, 80, 81, 82, 83, 84, 85, 86, 87, 88, 89] (by decide +kernel) (by decide +kernel)
set_option maxRecDepth 20000 in
theorem gX1_readNumbers_X1_nextToken : GoodIn wsX1_readNumbers (wsV RX1 31 RX1 yX1_nextToken wsX1_nextToken) := goodIn_app (goodIn_of _ (by decide +kernel)) ggX1_readNumbers_X1_nextToken
theorem dX1_readNumbers_0 : decode cX1_readNumbers 0 = .ok (.iconst 0, 1) := by decide +kernel
theorem dX1_readNumbers_1 : decode cX1_readNumbers 1 = .ok (.istore_n 2, 1) := by decide +kernel
theorem dX1_readNumbers_2 : decode cX1_readNumbers 2 = .ok (.iload_n 2, 1) := by decide +kernel
theorem dX1_readNumbers_3 : decode cX1_readNumbers 3 = .ok (.iload_n 1, 1) := by decide +kernel
theorem dX1_readNumbers_4 : decode cX1_readNumbers 4 = .ok (.if_icmp .ge 42, 3) := by decide +kernel
theorem dX1_readNumbers_7 : decode cX1_readNumbers 7 = .ok (.iload_n 2, 1) := by decide +kernel
theorem dX1_readNumbers_8 : decode cX1_readNumbers 8 = .ok (.aload_n 0, 1) := by decide +kernel
theorem dX1_readNumbers_9 : decode cX1_readNumbers 9 = .ok (.getfield 15, 3) := by decide +kernel
theorem dX1_readNumbers_12 : decode cX1_readNumbers 12 = .ok (.arraylength, 1) := by decide +kernel
theorem dX1_readNumbers_13 : decode cX1_readNumbers 13 = .ok (.if_icmp .ge 33, 3) := by decide +kernel
theorem dX1_readNumbers_16 : decode cX1_readNumbers 16 = .ok (.aload_n 0, 1) := by decide +kernel
theorem dX1_readNumbers_17 : decode cX1_readNumbers 17 = .ok (.invokevirtual 31, 3) := by decide +kernel
theorem dX1_readNumbers_20 : decode cX1_readNumbers 20 = .ok (.aload_n 0, 1) := by decide +kernel
theorem dX1_readNumbers_21 : decode cX1_readNumbers 21 = .ok (.getfield 34, 3) := by decide +kernel
theorem dX1_readNumbers_24 : decode cX1_readNumbers 24 = .ok (.iconst 2, 1) := by decide +kernel
theorem dX1_readNumbers_25 : decode cX1_readNumbers 25 = .ok (.if_icmp .eq 5, 3) := by decide +kernel
theorem dX1_readNumbers_28 : decode cX1_readNumbers 28 = .ok (.iconst 0, 1) := by decide +kernel
theorem dX1_readNumbers_29 : decode cX1_readNumbers 29 = .ok (.ireturn, 1) := by decide +kernel
theorem dX1_readNumbers_30 : decode cX1_readNumbers 30 = .ok (.aload_n 0, 1) := by decide +kernel
theorem dX1_readNumbers_31 : decode cX1_readNumbers 31 = .ok (.getfield 15, 3) := by decide +kernel
theorem dX1_readNumbers_34 : decode cX1_readNumbers 34 = .ok (.iload_n 2, 1) := by decide +kernel
theorem dX1_readNumbers_35 : decode cX1_readNumbers 35 = .ok (.aload_n 0, 1) := by decide +kernel
theorem dX1_readNumbers_36 : decode cX1_readNumbers 36 = .ok (.getfield 37, 3) := by decide +kernel
theorem dX1_readNumbers_39 : decode cX1_readNumbers 39 = .ok (.iastore, 1) := by decide +kernel
theorem dX1_readNumbers_40 : decode cX1_readNumbers 40 = .ok (.iinc 2 1, 3) := by decide +kernel
theorem dX1_readNumbers_43 : decode cX1_readNumbers 43 = .ok (.goto (-41), 3) := by decide +kernel
theorem dX1_readNumbers_46 : decode cX1_readNumbers 46 = .ok (.aload_n 0, 1) := by decide +kernel
theorem dX1_readNumbers_47 : decode cX1_readNumbers 47 = .ok (.invokevirtual 31, 3) := by decide +kernel
theorem dX1_readNumbers_50 : decode cX1_readNumbers 50 = .ok (.aload_n 0, 1) := by decide +kernel
theorem dX1_readNumbers_51 : decode cX1_readNumbers 51 = .ok (.getfield 34, 3) := by decide +kernel
theorem dX1_readNumbers_54 : decode cX1_readNumbers 54 = .ok (.iconst 3, 1) := by decide +kernel
theorem dX1_readNumbers_55 : decode cX1_readNumbers 55 = .ok (.if_icmp .ne 7, 3) := by decide +kernel
theorem dX1_readNumbers_58 : decode cX1_readNumbers 58 = .ok (.iconst 1, 1) := by decide +kernel
theorem dX1_readNumbers_59 : decode cX1_readNumbers 59 = .ok (.goto 4, 3) := by decide +kernel
theorem dX1_readNumbers_62 : decode cX1_readNumbers 62 = .ok (.iconst 0, 1) := by decide +kernel
theorem dX1_readNumbers_63 : decode cX1_readNumbers 63 = .ok (.ireturn, 1) := by decide +kernel
set_option maxRecDepth 20000 in
theorem ggX1_nextToken_X1_isLetter : GoodIn wsX1_nextToken wsX1_isLetter := goodIn_r _ [9] (by decide +kernel) (by decide +kernel)
set_option maxRecDepth 20000 in
theorem gX1_nextToken_X1_isLetter : GoodIn wsX1_nextToken (va_wsS RX1 72 yX1_isLetter wsX1_isLetter) := goodIn_app (goodIn_of _ (by decide +kernel)) ggX1_nextToken_X1_isLetter
set_option maxRecDepth 20000 in
theorem ggX1_nextToken_X1_readWord : GoodIn wsX1_nextToken wsX1_readWord := goodIn_r _ [13, 1, 2, 3, 5, 14, 6, 7, 8, 9, 15, 16, 17, 18, 19, 20, 21, 4, 22, 23, 24, 25, 26, 27, 28, 29, 30, 31, 32, 33, 34, 35, 36, 37, 38, 39, 40, 41, 42, 43, 44, 45, 46, 47, 48, 49, 50, 51, 52, 53, 54, 55, 56, 57, 58, 59, 60, 61, 62, 63, 64, 65, 66, 67, 68, 69, 70, 78, 79, 80, 81, 82, 83, 84] (by decide +kernel) (by decide +kernel)
set_option maxRecDepth 20000 in
theorem gX1_nextToken_X1_readWord : GoodIn wsX1_nextToken (wsV RX1 76 RX1 yX1_readWord wsX1_readWord) := goodIn_app (goodIn_of _ (by decide +kernel)) ggX1_nextToken_X1_readWord
set_option maxRecDepth 20000 in
theorem ggX1_nextToken_X1_isFigure : GoodIn wsX1_nextToken wsX1_isFigure := goodIn_r _ [73] (by decide +kernel) (by decide +kernel)
set_option maxRecDepth 20000 in
theorem gX1_nextToken_X1_isFigure : GoodIn wsX1_nextToken (va_wsS RX1 79 yX1_isFigure wsX1_isFigure) := goodIn_app (goodIn_of _ (by decide +kernel)) ggX1_nextToken_X1_isFigure
set_option maxRecDepth 20000 in
theorem ggX1_nextToken_X1_readFigures : GoodIn wsX1_nextToken wsX1_readFigures := goodIn_r _ [77, 14, 1, 2, 3, 4, 5, 71, 72, 8, 73, 78, 79, 80, 81, 82, 83, 84] (by decide +kernel) (by decide +kernel)
set_option maxRecDepth 20000 in
theorem gX1_nextToken_X1_readFigures : GoodIn wsX1_nextToken (wsV RX1 82 RX1 yX1_readFigures wsX1_readFigures) := goodIn_app (goodIn_of _ (by decide +kernel)) ggX1_nextToken_X1_readFigures
theorem dX1_nextToken_0 : decode cX1_nextToken 0 = .ok (.aload_n 0, 1) := by decide +kernel
theorem dX1_nextToken_1 : decode cX1_nextToken 1 = .ok (.getfield 28, 3) := by decide +kernel
theorem dX1_nextToken_4 : decode cX1_nextToken 4 = .ok (.aload_n 0, 1) := by decide +kernel
theorem dX1_nextToken_5 : decode cX1_nextToken 5 = .ok (.getfield 19, 3) := by decide +kernel
theorem dX1_nextToken_8 : decode cX1_nextToken 8 = .ok (.if_icmp .ge 30, 3) := by decide +kernel
theorem dX1_nextToken_11 : decode cX1_nextToken 11 = .ok (.aload_n 0, 1) := by decide +kernel
theorem dX1_nextToken_12 : decode cX1_nextToken 12 = .ok (.getfield 11, 3) := by decide +kernel
theorem dX1_nextToken_15 : decode cX1_nextToken 15 = .ok (.aload_n 0, 1) := by decide +kernel
theorem dX1_nextToken_16 : decode cX1_nextToken 16 = .ok (.getfield 28, 3) := by decide +kernel
theorem dX1_nextToken_19 : decode cX1_nextToken 19 = .ok (.baload, 1) := by decide +kernel
theorem dX1_nextToken_20 : decode cX1_nextToken 20 = .ok (.bipush 32, 2) := by decide +kernel
theorem dX1_nextToken_22 : decode cX1_nextToken 22 = .ok (.if_icmp .ne 16, 3) := by decide +kernel
theorem dX1_nextToken_25 : decode cX1_nextToken 25 = .ok (.aload_n 0, 1) := by decide +kernel
theorem dX1_nextToken_26 : decode cX1_nextToken 26 = .ok (.dup, 1) := by decide +kernel
theorem dX1_nextToken_27 : decode cX1_nextToken 27 = .ok (.getfield 28, 3) := by decide +kernel
theorem dX1_nextToken_30 : decode cX1_nextToken 30 = .ok (.iconst 1, 1) := by decide +kernel
theorem dX1_nextToken_31 : decode cX1_nextToken 31 = .ok (.iadd, 1) := by decide +kernel
theorem dX1_nextToken_32 : decode cX1_nextToken 32 = .ok (.putfield 28, 3) := by decide +kernel
theorem dX1_nextToken_35 : decode cX1_nextToken 35 = .ok (.goto (-35), 3) := by decide +kernel
theorem dX1_nextToken_38 : decode cX1_nextToken 38 = .ok (.aload_n 0, 1) := by decide +kernel
theorem dX1_nextToken_39 : decode cX1_nextToken 39 = .ok (.aload_n 0, 1) := by decide +kernel
theorem dX1_nextToken_40 : decode cX1_nextToken 40 = .ok (.getfield 28, 3) := by decide +kernel
theorem dX1_nextToken_43 : decode cX1_nextToken 43 = .ok (.putfield 48, 3) := by decide +kernel
theorem dX1_nextToken_46 : decode cX1_nextToken 46 = .ok (.aload_n 0, 1) := by decide +kernel
theorem dX1_nextToken_47 : decode cX1_nextToken 47 = .ok (.getfield 28, 3) := by decide +kernel
theorem dX1_nextToken_50 : decode cX1_nextToken 50 = .ok (.aload_n 0, 1) := by decide +kernel
theorem dX1_nextToken_51 : decode cX1_nextToken 51 = .ok (.getfield 19, 3) := by decide +kernel
theorem dX1_nextToken_54 : decode cX1_nextToken 54 = .ok (.if_icmp .lt 11, 3) := by decide +kernel
theorem dX1_nextToken_57 : decode cX1_nextToken 57 = .ok (.aload_n 0, 1) := by decide +kernel
theorem dX1_nextToken_58 : decode cX1_nextToken 58 = .ok (.iconst 0, 1) := by decide +kernel
theorem dX1_nextToken_59 : decode cX1_nextToken 59 = .ok (.putfield 34, 3) := by decide +kernel
theorem dX1_nextToken_62 : decode cX1_nextToken 62 = .ok (.goto 80, 3) := by decide +kernel
theorem dX1_nextToken_65 : decode cX1_nextToken 65 = .ok (.aload_n 0, 1) := by decide +kernel
theorem dX1_nextToken_66 : decode cX1_nextToken 66 = .ok (.getfield 11, 3) := by decide +kernel
theorem dX1_nextToken_69 : decode cX1_nextToken 69 = .ok (.aload_n 0, 1) := by decide +kernel
theorem dX1_nextToken_70 : decode cX1_nextToken 70 = .ok (.getfield 28, 3) := by decide +kernel
theorem dX1_nextToken_73 : decode cX1_nextToken 73 = .ok (.baload, 1) := by decide +kernel
theorem dX1_nextToken_74 : decode cX1_nextToken 74 = .ok (.invokestatic 72, 3) := by decide +kernel
theorem dX1_nextToken_77 : decode cX1_nextToken 77 = .ok (.ifCond .eq 10, 3) := by decide +kernel
theorem dX1_nextToken_80 : decode cX1_nextToken 80 = .ok (.aload_n 0, 1) := by decide +kernel
theorem dX1_nextToken_81 : decode cX1_nextToken 81 = .ok (.invokevirtual 76, 3) := by decide +kernel
theorem dX1_nextToken_84 : decode cX1_nextToken 84 = .ok (.goto 58, 3) := by decide +kernel
theorem dX1_nextToken_87 : decode cX1_nextToken 87 = .ok (.aload_n 0, 1) := by decide +kernel
theorem dX1_nextToken_88 : decode cX1_nextToken 88 = .ok (.getfield 11, 3) := by decide +kernel
theorem dX1_nextToken_91 : decode cX1_nextToken 91 = .ok (.aload_n 0, 1) := by decide +kernel
theorem dX1_nextToken_92 : decode cX1_nextToken 92 = .ok (.getfield 28, 3) := by decide +kernel
theorem dX1_nextToken_95 : decode cX1_nextToken 95 = .ok (.baload, 1) := by decide +kernel
theorem dX1_nextToken_96 : decode cX1_nextToken 96 = .ok (.invokestatic 79, 3) := by decide +kernel
theorem dX1_nextToken_99 : decode cX1_nextToken 99 = .ok (.ifCond .eq 10, 3) := by decide +kernel
theorem dX1_nextToken_102 : decode cX1_nextToken 102 = .ok (.aload_n 0, 1) := by decide +kernel
theorem dX1_nextToken_103 : decode cX1_nextToken 103 = .ok (.invokevirtual 82, 3) := by decide +kernel
theorem dX1_nextToken_106 : decode cX1_nextToken 106 = .ok (.goto 36, 3) := by decide +kernel
theorem dX1_nextToken_109 : decode cX1_nextToken 109 = .ok (.aload_n 0, 1) := by decide +kernel
theorem dX1_nextToken_110 : decode cX1_nextToken 110 = .ok (.aload_n 0, 1) := by decide +kernel
theorem dX1_nextToken_111 : decode cX1_nextToken 111 = .ok (.getfield 11, 3) := by decide +kernel
theorem dX1_nextToken_114 : decode cX1_nextToken 114 = .ok (.aload_n 0, 1) := by decide +kernel
theorem dX1_nextToken_115 : decode cX1_nextToken 115 = .ok (.getfield 28, 3) := by decide +kernel
theorem dX1_nextToken_118 : decode cX1_nextToken 118 = .ok (.baload, 1) := by decide +kernel
theorem dX1_nextToken_119 : decode cX1_nextToken 119 = .ok (.bipush 59, 2) := by decide +kernel
theorem dX1_nextToken_121 : decode cX1_nextToken 121 = .ok (.if_icmp .ne 7, 3) := by decide +kernel
theorem dX1_nextToken_124 : decode cX1_nextToken 124 = .ok (.iconst 3, 1) := by decide +kernel
theorem dX1_nextToken_125 : decode cX1_nextToken 125 = .ok (.goto 4, 3) := by decide +kernel
theorem dX1_nextToken_128 : decode cX1_nextToken 128 = .ok (.iconst 4, 1) := by decide +kernel
theorem dX1_nextToken_129 : decode cX1_nextToken 129 = .ok (.putfield 34, 3) := by decide +kernel
theorem dX1_nextToken_132 : decode cX1_nextToken 132 = .ok (.aload_n 0, 1) := by decide +kernel
theorem dX1_nextToken_133 : decode cX1_nextToken 133 = .ok (.dup, 1) := by decide +kernel
theorem dX1_nextToken_134 : decode cX1_nextToken 134 = .ok (.getfield 28, 3) := by decide +kernel
theorem dX1_nextToken_137 : decode cX1_nextToken 137 = .ok (.iconst 1, 1) := by decide +kernel
theorem dX1_nextToken_138 : decode cX1_nextToken 138 = .ok (.iadd, 1) := by decide +kernel
theorem dX1_nextToken_139 : decode cX1_nextToken 139 = .ok (.putfield 28, 3) := by decide +kernel
theorem dX1_nextToken_142 : decode cX1_nextToken 142 = .ok (.return_, 1) := by decide +kernel
set_option maxRecDepth 20000 in
theorem ggX1_readWord_X1_isLetter : GoodIn wsX1_readWord wsX1_isLetter := goodIn_r _ [9] (by decide +kernel) (by decide +kernel)
set_option maxRecDepth 20000 in
theorem gX1_readWord_X1_isLetter : GoodIn wsX1_readWord (va_wsS RX1 72 yX1_isLetter wsX1_isLetter) := goodIn_app (goodIn_of _ (by decide +kernel)) ggX1_readWord_X1_isLetter
set_option maxRecDepth 20000 in
theorem ggX1_readWord_X1_wordAt : GoodIn wsX1_readWord wsX1_wordAt := goodIn_r _ [12] (by decide +kernel) (by decide +kernel)
set_option maxRecDepth 20000 in
theorem gX1_readWord_X1_wordAt : GoodIn wsX1_readWord (va_wsS RX1 85 yX1_wordAt wsX1_wordAt) := goodIn_app (goodIn_of _ (by decide +kernel)) ggX1_readWord_X1_wordAt
set_option maxRecDepth 20000 in
theorem ggX1_readWord_X1_isWord : GoodIn wsX1_readWord wsX1_isWord := goodIn_r _ [16, 1, 17, 2, 3, 18, 19, 20, 21, 22, 23, 24, 25, 26, 27, 28, 29, 30, 31, 32, 33, 34, 35, 36, 37, 38, 39, 40, 41, 42, 43, 44, 45, 46, 47, 48, 49, 50, 51, 52, 53, 54, 55, 56, 57, 58, 59, 60, 61, 62, 63, 64, 65, 66, 67, 68, 69, 70, 71, 72, 73] (by decide +kernel) (by decide +kernel)
set_option maxRecDepth 20000 in
theorem gX1_readWord_X1_isWord : GoodIn wsX1_readWord (wsV RX1 89 RX1 yX1_isWord wsX1_isWord) := goodIn_app (goodIn_of _ (by decide +kernel)) ggX1_readWord_X1_isWord
theorem dX1_readWord_0 : decode cX1_readWord 0 = .ok (.aload_n 0, 1) := by decide +kernel
theorem dX1_readWord_1 : decode cX1_readWord 1 = .ok (.getfield 28, 3) := by decide +kernel
theorem dX1_readWord_4 : decode cX1_readWord 4 = .ok (.aload_n 0, 1) := by decide +kernel
theorem dX1_readWord_5 : decode cX1_readWord 5 = .ok (.getfield 19, 3) := by decide +kernel
theorem dX1_readWord_8 : decode cX1_readWord 8 = .ok (.if_icmp .ge 31, 3) := by decide +kernel
theorem dX1_readWord_11 : decode cX1_readWord 11 = .ok (.aload_n 0, 1) := by decide +kernel
theorem dX1_readWord_12 : decode cX1_readWord 12 = .ok (.getfield 11, 3) := by decide +kernel
theorem dX1_readWord_15 : decode cX1_readWord 15 = .ok (.aload_n 0, 1) := by decide +kernel
theorem dX1_readWord_16 : decode cX1_readWord 16 = .ok (.getfield 28, 3) := by decide +kernel
theorem dX1_readWord_19 : decode cX1_readWord 19 = .ok (.baload, 1) := by decide +kernel
theorem dX1_readWord_20 : decode cX1_readWord 20 = .ok (.invokestatic 72, 3) := by decide +kernel
theorem dX1_readWord_23 : decode cX1_readWord 23 = .ok (.ifCond .eq 16, 3) := by decide +kernel
theorem dX1_readWord_26 : decode cX1_readWord 26 = .ok (.aload_n 0, 1) := by decide +kernel
theorem dX1_readWord_27 : decode cX1_readWord 27 = .ok (.dup, 1) := by decide +kernel
theorem dX1_readWord_28 : decode cX1_readWord 28 = .ok (.getfield 28, 3) := by decide +kernel
theorem dX1_readWord_31 : decode cX1_readWord 31 = .ok (.iconst 1, 1) := by decide +kernel
theorem dX1_readWord_32 : decode cX1_readWord 32 = .ok (.iadd, 1) := by decide +kernel
theorem dX1_readWord_33 : decode cX1_readWord 33 = .ok (.putfield 28, 3) := by decide +kernel
theorem dX1_readWord_36 : decode cX1_readWord 36 = .ok (.goto (-36), 3) := by decide +kernel
theorem dX1_readWord_39 : decode cX1_readWord 39 = .ok (.aload_n 0, 1) := by decide +kernel
theorem dX1_readWord_40 : decode cX1_readWord 40 = .ok (.iconst 4, 1) := by decide +kernel
theorem dX1_readWord_41 : decode cX1_readWord 41 = .ok (.putfield 34, 3) := by decide +kernel
theorem dX1_readWord_44 : decode cX1_readWord 44 = .ok (.iconst 0, 1) := by decide +kernel
theorem dX1_readWord_45 : decode cX1_readWord 45 = .ok (.istore_n 1, 1) := by decide +kernel
theorem dX1_readWord_46 : decode cX1_readWord 46 = .ok (.iload_n 1, 1) := by decide +kernel
theorem dX1_readWord_47 : decode cX1_readWord 47 = .ok (.bipush 7, 2) := by decide +kernel
theorem dX1_readWord_49 : decode cX1_readWord 49 = .ok (.if_icmp .ge 30, 3) := by decide +kernel
theorem dX1_readWord_52 : decode cX1_readWord 52 = .ok (.aload_n 0, 1) := by decide +kernel
theorem dX1_readWord_53 : decode cX1_readWord 53 = .ok (.iload_n 1, 1) := by decide +kernel
theorem dX1_readWord_54 : decode cX1_readWord 54 = .ok (.invokestatic 85, 3) := by decide +kernel
theorem dX1_readWord_57 : decode cX1_readWord 57 = .ok (.invokevirtual 89, 3) := by decide +kernel
theorem dX1_readWord_60 : decode cX1_readWord 60 = .ok (.ifCond .eq 13, 3) := by decide +kernel
theorem dX1_readWord_63 : decode cX1_readWord 63 = .ok (.aload_n 0, 1) := by decide +kernel
theorem dX1_readWord_64 : decode cX1_readWord 64 = .ok (.iconst 1, 1) := by decide +kernel
theorem dX1_readWord_65 : decode cX1_readWord 65 = .ok (.putfield 34, 3) := by decide +kernel
theorem dX1_readWord_68 : decode cX1_readWord 68 = .ok (.aload_n 0, 1) := by decide +kernel
theorem dX1_readWord_69 : decode cX1_readWord 69 = .ok (.iload_n 1, 1) := by decide +kernel
theorem dX1_readWord_70 : decode cX1_readWord 70 = .ok (.putfield 37, 3) := by decide +kernel
theorem dX1_readWord_73 : decode cX1_readWord 73 = .ok (.iinc 1 1, 3) := by decide +kernel
theorem dX1_readWord_76 : decode cX1_readWord 76 = .ok (.goto (-30), 3) := by decide +kernel
theorem dX1_readWord_79 : decode cX1_readWord 79 = .ok (.return_, 1) := by decide +kernel
set_option maxRecDepth 20000 in
theorem ggX1_isWord_J0_length_8abf5 : GoodIn wsX1_isWord wsJ0_length_8abf5 := goodIn_r _ [9, 10, 11, 12, 13, 8, 14, 15, 16] (by decide +kernel) (by decide +kernel)
set_option maxRecDepth 20000 in
theorem gX1_isWord_J0_length_8abf5 : GoodIn wsX1_isWord (wsV RX1 93 RJ0 yJ0_length_8abf5 wsJ0_length_8abf5) := goodIn_app (goodIn_of _ (by decide +kernel)) ggX1_isWord_J0_length_8abf5
set_option maxRecDepth 20000 in
theorem ggX1_isWord_J0_charAt_5068e : GoodIn wsX1_isWord wsJ0_charAt_5068e := goodIn_r _ [20, 10, 21, 22, 23, 8, 24, 15, 16, 25, 26, 27, 28, 29, 30, 31, 32, 33, 34, 35, 36, 37, 38, 39, 40, 41, 42, 43, 44, 45, 46, 47, 48, 49, 50, 51, 52, 53] (by decide +kernel) (by decide +kernel)
set_option maxRecDepth 20000 in
theorem gX1_isWord_J0_charAt_5068e : GoodIn wsX1_isWord (wsV RX1 98 RJ0 yJ0_charAt_5068e wsJ0_charAt_5068e) := goodIn_app (goodIn_of _ (by decide +kernel)) ggX1_isWord_J0_charAt_5068e
theorem dX1_isWord_0 : decode cX1_isWord 0 = .ok (.aload_n 1, 1) := by decide +kernel
theorem dX1_isWord_1 : decode cX1_isWord 1 = .ok (.invokevirtual 93, 3) := by decide +kernel
theorem dX1_isWord_4 : decode cX1_isWord 4 = .ok (.aload_n 0, 1) := by decide +kernel
theorem dX1_isWord_5 : decode cX1_isWord 5 = .ok (.getfield 28, 3) := by decide +kernel
theorem dX1_isWord_8 : decode cX1_isWord 8 = .ok (.aload_n 0, 1) := by decide +kernel
theorem dX1_isWord_9 : decode cX1_isWord 9 = .ok (.getfield 48, 3) := by decide +kernel
theorem dX1_isWord_12 : decode cX1_isWord 12 = .ok (.isub, 1) := by decide +kernel
theorem dX1_isWord_13 : decode cX1_isWord 13 = .ok (.if_icmp .eq 5, 3) := by decide +kernel
theorem dX1_isWord_16 : decode cX1_isWord 16 = .ok (.iconst 0, 1) := by decide +kernel
theorem dX1_isWord_17 : decode cX1_isWord 17 = .ok (.ireturn, 1) := by decide +kernel
theorem dX1_isWord_18 : decode cX1_isWord 18 = .ok (.iconst 0, 1) := by decide +kernel
theorem dX1_isWord_19 : decode cX1_isWord 19 = .ok (.istore_n 2, 1) := by decide +kernel
theorem dX1_isWord_20 : decode cX1_isWord 20 = .ok (.iload_n 2, 1) := by decide +kernel
theorem dX1_isWord_21 : decode cX1_isWord 21 = .ok (.aload_n 1, 1) := by decide +kernel
theorem dX1_isWord_22 : decode cX1_isWord 22 = .ok (.invokevirtual 93, 3) := by decide +kernel
theorem dX1_isWord_25 : decode cX1_isWord 25 = .ok (.if_icmp .ge 43, 3) := by decide +kernel
theorem dX1_isWord_28 : decode cX1_isWord 28 = .ok (.aload_n 0, 1) := by decide +kernel
theorem dX1_isWord_29 : decode cX1_isWord 29 = .ok (.getfield 48, 3) := by decide +kernel
theorem dX1_isWord_32 : decode cX1_isWord 32 = .ok (.iload_n 2, 1) := by decide +kernel
theorem dX1_isWord_33 : decode cX1_isWord 33 = .ok (.iadd, 1) := by decide +kernel
theorem dX1_isWord_34 : decode cX1_isWord 34 = .ok (.aload_n 0, 1) := by decide +kernel
theorem dX1_isWord_35 : decode cX1_isWord 35 = .ok (.getfield 19, 3) := by decide +kernel
theorem dX1_isWord_38 : decode cX1_isWord 38 = .ok (.if_icmp .ge 30, 3) := by decide +kernel
theorem dX1_isWord_41 : decode cX1_isWord 41 = .ok (.aload_n 0, 1) := by decide +kernel
theorem dX1_isWord_42 : decode cX1_isWord 42 = .ok (.getfield 11, 3) := by decide +kernel
theorem dX1_isWord_45 : decode cX1_isWord 45 = .ok (.aload_n 0, 1) := by decide +kernel
theorem dX1_isWord_46 : decode cX1_isWord 46 = .ok (.getfield 48, 3) := by decide +kernel
theorem dX1_isWord_49 : decode cX1_isWord 49 = .ok (.iload_n 2, 1) := by decide +kernel
theorem dX1_isWord_50 : decode cX1_isWord 50 = .ok (.iadd, 1) := by decide +kernel
theorem dX1_isWord_51 : decode cX1_isWord 51 = .ok (.baload, 1) := by decide +kernel
theorem dX1_isWord_52 : decode cX1_isWord 52 = .ok (.aload_n 1, 1) := by decide +kernel
theorem dX1_isWord_53 : decode cX1_isWord 53 = .ok (.iload_n 2, 1) := by decide +kernel
theorem dX1_isWord_54 : decode cX1_isWord 54 = .ok (.invokevirtual 98, 3) := by decide +kernel
theorem dX1_isWord_57 : decode cX1_isWord 57 = .ok (.if_icmp .eq 5, 3) := by decide +kernel
theorem dX1_isWord_60 : decode cX1_isWord 60 = .ok (.iconst 0, 1) := by decide +kernel
theorem dX1_isWord_61 : decode cX1_isWord 61 = .ok (.ireturn, 1) := by decide +kernel
theorem dX1_isWord_62 : decode cX1_isWord 62 = .ok (.iinc 2 1, 3) := by decide +kernel
theorem dX1_isWord_65 : decode cX1_isWord 65 = .ok (.goto (-45), 3) := by decide +kernel
theorem dX1_isWord_68 : decode cX1_isWord 68 = .ok (.iconst 1, 1) := by decide +kernel
theorem dX1_isWord_69 : decode cX1_isWord 69 = .ok (.ireturn, 1) := by decide +kernel
theorem dX1_wordAt_0 : decode cX1_wordAt 0 = .ok (.iload_n 0, 1) := by decide +kernel
theorem dX1_wordAt_1 : decode cX1_wordAt 1 = .ok (.tableswitch 57 0 5 #[39, 42, 45, 48, 51, 54], 39) := by decide +kernel
theorem dX1_wordAt_40 : decode cX1_wordAt 40 = .ok (.ldc 102, 2) := by decide +kernel
theorem dX1_wordAt_42 : decode cX1_wordAt 42 = .ok (.areturn, 1) := by decide +kernel
theorem dX1_wordAt_43 : decode cX1_wordAt 43 = .ok (.ldc 104, 2) := by decide +kernel
theorem dX1_wordAt_45 : decode cX1_wordAt 45 = .ok (.areturn, 1) := by decide +kernel
theorem dX1_wordAt_46 : decode cX1_wordAt 46 = .ok (.ldc 106, 2) := by decide +kernel
theorem dX1_wordAt_48 : decode cX1_wordAt 48 = .ok (.areturn, 1) := by decide +kernel
theorem dX1_wordAt_49 : decode cX1_wordAt 49 = .ok (.ldc 108, 2) := by decide +kernel
theorem dX1_wordAt_51 : decode cX1_wordAt 51 = .ok (.areturn, 1) := by decide +kernel
theorem dX1_wordAt_52 : decode cX1_wordAt 52 = .ok (.ldc 110, 2) := by decide +kernel
theorem dX1_wordAt_54 : decode cX1_wordAt 54 = .ok (.areturn, 1) := by decide +kernel
theorem dX1_wordAt_55 : decode cX1_wordAt 55 = .ok (.ldc 112, 2) := by decide +kernel
theorem dX1_wordAt_57 : decode cX1_wordAt 57 = .ok (.areturn, 1) := by decide +kernel
theorem dX1_wordAt_58 : decode cX1_wordAt 58 = .ok (.ldc 114, 2) := by decide +kernel
theorem dX1_wordAt_60 : decode cX1_wordAt 60 = .ok (.areturn, 1) := by decide +kernel
set_option maxRecDepth 20000 in
theorem ggX1_readFigures_X1_isFigure : GoodIn wsX1_readFigures wsX1_isFigure := goodIn_r _ [10] (by decide +kernel) (by decide +kernel)
set_option maxRecDepth 20000 in
theorem gX1_readFigures_X1_isFigure : GoodIn wsX1_readFigures (va_wsS RX1 79 yX1_isFigure wsX1_isFigure) := goodIn_app (goodIn_of _ (by decide +kernel)) ggX1_readFigures_X1_isFigure
theorem dX1_readFigures_0 : decode cX1_readFigures 0 = .ok (.aload_n 0, 1) := by decide +kernel
theorem dX1_readFigures_1 : decode cX1_readFigures 1 = .ok (.iconst 0, 1) := by decide +kernel
theorem dX1_readFigures_2 : decode cX1_readFigures 2 = .ok (.putfield 37, 3) := by decide +kernel
theorem dX1_readFigures_5 : decode cX1_readFigures 5 = .ok (.aload_n 0, 1) := by decide +kernel
theorem dX1_readFigures_6 : decode cX1_readFigures 6 = .ok (.getfield 28, 3) := by decide +kernel
theorem dX1_readFigures_9 : decode cX1_readFigures 9 = .ok (.aload_n 0, 1) := by decide +kernel
theorem dX1_readFigures_10 : decode cX1_readFigures 10 = .ok (.getfield 19, 3) := by decide +kernel
theorem dX1_readFigures_13 : decode cX1_readFigures 13 = .ok (.if_icmp .ge 55, 3) := by decide +kernel
theorem dX1_readFigures_16 : decode cX1_readFigures 16 = .ok (.aload_n 0, 1) := by decide +kernel
theorem dX1_readFigures_17 : decode cX1_readFigures 17 = .ok (.getfield 11, 3) := by decide +kernel
theorem dX1_readFigures_20 : decode cX1_readFigures 20 = .ok (.aload_n 0, 1) := by decide +kernel
theorem dX1_readFigures_21 : decode cX1_readFigures 21 = .ok (.getfield 28, 3) := by decide +kernel
theorem dX1_readFigures_24 : decode cX1_readFigures 24 = .ok (.baload, 1) := by decide +kernel
theorem dX1_readFigures_25 : decode cX1_readFigures 25 = .ok (.invokestatic 79, 3) := by decide +kernel
theorem dX1_readFigures_28 : decode cX1_readFigures 28 = .ok (.ifCond .eq 40, 3) := by decide +kernel
theorem dX1_readFigures_31 : decode cX1_readFigures 31 = .ok (.aload_n 0, 1) := by decide +kernel
theorem dX1_readFigures_32 : decode cX1_readFigures 32 = .ok (.bipush 10, 2) := by decide +kernel
theorem dX1_readFigures_34 : decode cX1_readFigures 34 = .ok (.aload_n 0, 1) := by decide +kernel
theorem dX1_readFigures_35 : decode cX1_readFigures 35 = .ok (.getfield 37, 3) := by decide +kernel
theorem dX1_readFigures_38 : decode cX1_readFigures 38 = .ok (.imul, 1) := by decide +kernel
theorem dX1_readFigures_39 : decode cX1_readFigures 39 = .ok (.aload_n 0, 1) := by decide +kernel
theorem dX1_readFigures_40 : decode cX1_readFigures 40 = .ok (.getfield 11, 3) := by decide +kernel
theorem dX1_readFigures_43 : decode cX1_readFigures 43 = .ok (.aload_n 0, 1) := by decide +kernel
theorem dX1_readFigures_44 : decode cX1_readFigures 44 = .ok (.getfield 28, 3) := by decide +kernel
theorem dX1_readFigures_47 : decode cX1_readFigures 47 = .ok (.baload, 1) := by decide +kernel
theorem dX1_readFigures_48 : decode cX1_readFigures 48 = .ok (.iadd, 1) := by decide +kernel
theorem dX1_readFigures_49 : decode cX1_readFigures 49 = .ok (.bipush 48, 2) := by decide +kernel
theorem dX1_readFigures_51 : decode cX1_readFigures 51 = .ok (.isub, 1) := by decide +kernel
theorem dX1_readFigures_52 : decode cX1_readFigures 52 = .ok (.putfield 37, 3) := by decide +kernel
theorem dX1_readFigures_55 : decode cX1_readFigures 55 = .ok (.aload_n 0, 1) := by decide +kernel
theorem dX1_readFigures_56 : decode cX1_readFigures 56 = .ok (.dup, 1) := by decide +kernel
theorem dX1_readFigures_57 : decode cX1_readFigures 57 = .ok (.getfield 28, 3) := by decide +kernel
theorem dX1_readFigures_60 : decode cX1_readFigures 60 = .ok (.iconst 1, 1) := by decide +kernel
theorem dX1_readFigures_61 : decode cX1_readFigures 61 = .ok (.iadd, 1) := by decide +kernel
theorem dX1_readFigures_62 : decode cX1_readFigures 62 = .ok (.putfield 28, 3) := by decide +kernel
theorem dX1_readFigures_65 : decode cX1_readFigures 65 = .ok (.goto (-60), 3) := by decide +kernel
theorem dX1_readFigures_68 : decode cX1_readFigures 68 = .ok (.aload_n 0, 1) := by decide +kernel
theorem dX1_readFigures_69 : decode cX1_readFigures 69 = .ok (.aload_n 0, 1) := by decide +kernel
theorem dX1_readFigures_70 : decode cX1_readFigures 70 = .ok (.getfield 28, 3) := by decide +kernel
theorem dX1_readFigures_73 : decode cX1_readFigures 73 = .ok (.aload_n 0, 1) := by decide +kernel
theorem dX1_readFigures_74 : decode cX1_readFigures 74 = .ok (.getfield 48, 3) := by decide +kernel
theorem dX1_readFigures_77 : decode cX1_readFigures 77 = .ok (.isub, 1) := by decide +kernel
theorem dX1_readFigures_78 : decode cX1_readFigures 78 = .ok (.iconst 2, 1) := by decide +kernel
theorem dX1_readFigures_79 : decode cX1_readFigures 79 = .ok (.if_icmp .le 7, 3) := by decide +kernel
theorem dX1_readFigures_82 : decode cX1_readFigures 82 = .ok (.iconst 4, 1) := by decide +kernel
theorem dX1_readFigures_83 : decode cX1_readFigures 83 = .ok (.goto 4, 3) := by decide +kernel
theorem dX1_readFigures_86 : decode cX1_readFigures 86 = .ok (.iconst 2, 1) := by decide +kernel
theorem dX1_readFigures_87 : decode cX1_readFigures 87 = .ok (.putfield 34, 3) := by decide +kernel
theorem dX1_readFigures_90 : decode cX1_readFigures 90 = .ok (.return_, 1) := by decide +kernel
theorem dX1_isLetter_0 : decode cX1_isLetter 0 = .ok (.iload_n 0, 1) := by decide +kernel
theorem dX1_isLetter_1 : decode cX1_isLetter 1 = .ok (.bipush 97, 2) := by decide +kernel
theorem dX1_isLetter_3 : decode cX1_isLetter 3 = .ok (.if_icmp .lt 13, 3) := by decide +kernel
theorem dX1_isLetter_6 : decode cX1_isLetter 6 = .ok (.iload_n 0, 1) := by decide +kernel
theorem dX1_isLetter_7 : decode cX1_isLetter 7 = .ok (.bipush 122, 2) := by decide +kernel
theorem dX1_isLetter_9 : decode cX1_isLetter 9 = .ok (.if_icmp .gt 7, 3) := by decide +kernel
theorem dX1_isLetter_12 : decode cX1_isLetter 12 = .ok (.iconst 1, 1) := by decide +kernel
theorem dX1_isLetter_13 : decode cX1_isLetter 13 = .ok (.goto 4, 3) := by decide +kernel
theorem dX1_isLetter_16 : decode cX1_isLetter 16 = .ok (.iconst 0, 1) := by decide +kernel
theorem dX1_isLetter_17 : decode cX1_isLetter 17 = .ok (.ireturn, 1) := by decide +kernel
theorem dX1_isFigure_0 : decode cX1_isFigure 0 = .ok (.iload_n 0, 1) := by decide +kernel
theorem dX1_isFigure_1 : decode cX1_isFigure 1 = .ok (.bipush 48, 2) := by decide +kernel
theorem dX1_isFigure_3 : decode cX1_isFigure 3 = .ok (.if_icmp .lt 13, 3) := by decide +kernel
theorem dX1_isFigure_6 : decode cX1_isFigure 6 = .ok (.iload_n 0, 1) := by decide +kernel
theorem dX1_isFigure_7 : decode cX1_isFigure 7 = .ok (.bipush 57, 2) := by decide +kernel
theorem dX1_isFigure_9 : decode cX1_isFigure 9 = .ok (.if_icmp .gt 7, 3) := by decide +kernel
theorem dX1_isFigure_12 : decode cX1_isFigure 12 = .ok (.iconst 1, 1) := by decide +kernel
theorem dX1_isFigure_13 : decode cX1_isFigure 13 = .ok (.goto 4, 3) := by decide +kernel
theorem dX1_isFigure_16 : decode cX1_isFigure 16 = .ok (.iconst 0, 1) := by decide +kernel
theorem dX1_isFigure_17 : decode cX1_isFigure 17 = .ok (.ireturn, 1) := by decide +kernel
theorem dX2_init_0 : decode cX2_init 0 = .ok (.aload_n 0, 1) := by decide +kernel
theorem dX2_init_1 : decode cX2_init 1 = .ok (.invokespecial 1, 3) := by decide +kernel
theorem dX2_init_4 : decode cX2_init 4 = .ok (.aload_n 0, 1) := by decide +kernel
theorem dX2_init_5 : decode cX2_init 5 = .ok (.lconst 0, 1) := by decide +kernel
theorem dX2_init_6 : decode cX2_init 6 = .ok (.putfield 7, 3) := by decide +kernel
theorem dX2_init_9 : decode cX2_init 9 = .ok (.aload_n 0, 1) := by decide +kernel
theorem dX2_init_10 : decode cX2_init 10 = .ok (.lconst 1, 1) := by decide +kernel
theorem dX2_init_11 : decode cX2_init 11 = .ok (.putfield 13, 3) := by decide +kernel
theorem dX2_init_14 : decode cX2_init 14 = .ok (.return_, 1) := by decide +kernel
set_option maxRecDepth 20000 in
theorem ggX2_become_X2_greatestCommon : GoodIn wsX2_become wsX2_greatestCommon := goodIn_r _ [6] (by decide +kernel) (by decide +kernel)
set_option maxRecDepth 20000 in
theorem gX2_become_X2_greatestCommon : GoodIn wsX2_become (va_wsS RX2 16 yX2_greatestCommon wsX2_greatestCommon) := goodIn_app (goodIn_of _ (by decide +kernel)) ggX2_become_X2_greatestCommon
theorem dX2_become_0 : decode cX2_become 0 = .ok (.lload_n 1, 1) := by decide +kernel
theorem dX2_become_1 : decode cX2_become 1 = .ok (.lload_n 3, 1) := by decide +kernel
theorem dX2_become_2 : decode cX2_become 2 = .ok (.invokestatic 16, 3) := by decide +kernel
theorem dX2_become_5 : decode cX2_become 5 = .ok (.lstore 5, 2) := by decide +kernel
theorem dX2_become_7 : decode cX2_become 7 = .ok (.lload 5, 2) := by decide +kernel
theorem dX2_become_9 : decode cX2_become 9 = .ok (.lconst 0, 1) := by decide +kernel
theorem dX2_become_10 : decode cX2_become 10 = .ok (.lcmp, 1) := by decide +kernel
theorem dX2_become_11 : decode cX2_become 11 = .ok (.ifCond .le 19, 3) := by decide +kernel
theorem dX2_become_14 : decode cX2_become 14 = .ok (.aload_n 0, 1) := by decide +kernel
theorem dX2_become_15 : decode cX2_become 15 = .ok (.lload_n 1, 1) := by decide +kernel
theorem dX2_become_16 : decode cX2_become 16 = .ok (.lload 5, 2) := by decide +kernel
theorem dX2_become_18 : decode cX2_become 18 = .ok (.ldiv, 1) := by decide +kernel
theorem dX2_become_19 : decode cX2_become 19 = .ok (.putfield 7, 3) := by decide +kernel
theorem dX2_become_22 : decode cX2_become 22 = .ok (.aload_n 0, 1) := by decide +kernel
theorem dX2_become_23 : decode cX2_become 23 = .ok (.lload_n 3, 1) := by decide +kernel
theorem dX2_become_24 : decode cX2_become 24 = .ok (.lload 5, 2) := by decide +kernel
theorem dX2_become_26 : decode cX2_become 26 = .ok (.ldiv, 1) := by decide +kernel
theorem dX2_become_27 : decode cX2_become 27 = .ok (.putfield 13, 3) := by decide +kernel
theorem dX2_become_30 : decode cX2_become 30 = .ok (.return_, 1) := by decide +kernel
theorem dX2_greatestCommon_0 : decode cX2_greatestCommon 0 = .ok (.iconst 0, 1) := by decide +kernel
theorem dX2_greatestCommon_1 : decode cX2_greatestCommon 1 = .ok (.istore 4, 2) := by decide +kernel
theorem dX2_greatestCommon_3 : decode cX2_greatestCommon 3 = .ok (.iload 4, 2) := by decide +kernel
theorem dX2_greatestCommon_5 : decode cX2_greatestCommon 5 = .ok (.bipush 100, 2) := by decide +kernel
theorem dX2_greatestCommon_7 : decode cX2_greatestCommon 7 = .ok (.if_icmp .ge 25, 3) := by decide +kernel
theorem dX2_greatestCommon_10 : decode cX2_greatestCommon 10 = .ok (.lload_n 2, 1) := by decide +kernel
theorem dX2_greatestCommon_11 : decode cX2_greatestCommon 11 = .ok (.lconst 0, 1) := by decide +kernel
theorem dX2_greatestCommon_12 : decode cX2_greatestCommon 12 = .ok (.lcmp, 1) := by decide +kernel
theorem dX2_greatestCommon_13 : decode cX2_greatestCommon 13 = .ok (.ifCond .eq 19, 3) := by decide +kernel
theorem dX2_greatestCommon_16 : decode cX2_greatestCommon 16 = .ok (.lload_n 0, 1) := by decide +kernel
theorem dX2_greatestCommon_17 : decode cX2_greatestCommon 17 = .ok (.lload_n 2, 1) := by decide +kernel
theorem dX2_greatestCommon_18 : decode cX2_greatestCommon 18 = .ok (.lrem, 1) := by decide +kernel
theorem dX2_greatestCommon_19 : decode cX2_greatestCommon 19 = .ok (.lstore 5, 2) := by decide +kernel
theorem dX2_greatestCommon_21 : decode cX2_greatestCommon 21 = .ok (.lload_n 2, 1) := by decide +kernel
theorem dX2_greatestCommon_22 : decode cX2_greatestCommon 22 = .ok (.lstore_n 0, 1) := by decide +kernel
theorem dX2_greatestCommon_23 : decode cX2_greatestCommon 23 = .ok (.lload 5, 2) := by decide +kernel
theorem dX2_greatestCommon_25 : decode cX2_greatestCommon 25 = .ok (.lstore_n 2, 1) := by decide +kernel
theorem dX2_greatestCommon_26 : decode cX2_greatestCommon 26 = .ok (.iinc 4 1, 3) := by decide +kernel
theorem dX2_greatestCommon_29 : decode cX2_greatestCommon 29 = .ok (.goto (-26), 3) := by decide +kernel
theorem dX2_greatestCommon_32 : decode cX2_greatestCommon 32 = .ok (.lload_n 0, 1) := by decide +kernel
theorem dX2_greatestCommon_33 : decode cX2_greatestCommon 33 = .ok (.lreturn, 1) := by decide +kernel
theorem dX3_init_0 : decode cX3_init 0 = .ok (.aload_n 0, 1) := by decide +kernel
theorem dX3_init_1 : decode cX3_init 1 = .ok (.invokespecial 3, 3) := by decide +kernel
theorem dX3_init_4 : decode cX3_init 4 = .ok (.aload_n 0, 1) := by decide +kernel
theorem dX3_init_5 : decode cX3_init 5 = .ok (.bipush 12, 2) := by decide +kernel
theorem dX3_init_7 : decode cX3_init 7 = .ok (.newarray .boolean, 2) := by decide +kernel
theorem dX3_init_9 : decode cX3_init 9 = .ok (.putfield 9, 3) := by decide +kernel
theorem dX3_init_12 : decode cX3_init 12 = .ok (.aload_n 0, 1) := by decide +kernel
theorem dX3_init_13 : decode cX3_init 13 = .ok (.bipush 70, 2) := by decide +kernel
theorem dX3_init_15 : decode cX3_init 15 = .ok (.newarray .int, 2) := by decide +kernel
theorem dX3_init_17 : decode cX3_init 17 = .ok (.putfield 15, 3) := by decide +kernel
theorem dX3_init_20 : decode cX3_init 20 = .ok (.aload_n 0, 1) := by decide +kernel
theorem dX3_init_21 : decode cX3_init 21 = .ok (.bipush 60, 2) := by decide +kernel
theorem dX3_init_23 : decode cX3_init 23 = .ok (.newarray .int, 2) := by decide +kernel
theorem dX3_init_25 : decode cX3_init 25 = .ok (.putfield 19, 3) := by decide +kernel
theorem dX3_init_28 : decode cX3_init 28 = .ok (.aload_n 0, 1) := by decide +kernel
theorem dX3_init_29 : decode cX3_init 29 = .ok (.bipush 6, 2) := by decide +kernel
theorem dX3_init_31 : decode cX3_init 31 = .ok (.newarray .int, 2) := by decide +kernel
theorem dX3_init_33 : decode cX3_init 33 = .ok (.putfield 22, 3) := by decide +kernel
theorem dX3_init_36 : decode cX3_init 36 = .ok (.aload_n 0, 1) := by decide +kernel
theorem dX3_init_37 : decode cX3_init 37 = .ok (.bipush 6, 2) := by decide +kernel
theorem dX3_init_39 : decode cX3_init 39 = .ok (.newarray .int, 2) := by decide +kernel
theorem dX3_init_41 : decode cX3_init 41 = .ok (.putfield 25, 3) := by decide +kernel
theorem dX3_init_44 : decode cX3_init 44 = .ok (.return_, 1) := by decide +kernel
theorem dX3_moodBehind_0 : decode cX3_moodBehind 0 = .ok (.iload_n 1, 1) := by decide +kernel
theorem dX3_moodBehind_1 : decode cX3_moodBehind 1 = .ok (.ifCond .eq 14, 3) := by decide +kernel
theorem dX3_moodBehind_4 : decode cX3_moodBehind 4 = .ok (.bipush 9, 2) := by decide +kernel
theorem dX3_moodBehind_6 : decode cX3_moodBehind 6 = .ok (.iload_n 0, 1) := by decide +kernel
theorem dX3_moodBehind_7 : decode cX3_moodBehind 7 = .ok (.iconst 1, 1) := by decide +kernel
theorem dX3_moodBehind_8 : decode cX3_moodBehind 8 = .ok (.iadd, 1) := by decide +kernel
theorem dX3_moodBehind_9 : decode cX3_moodBehind 9 = .ok (.invokestatic 28, 3) := by decide +kernel
theorem dX3_moodBehind_12 : decode cX3_moodBehind 12 = .ok (.goto 6, 3) := by decide +kernel
theorem dX3_moodBehind_15 : decode cX3_moodBehind 15 = .ok (.iload_n 0, 1) := by decide +kernel
theorem dX3_moodBehind_16 : decode cX3_moodBehind 16 = .ok (.iconst 1, 1) := by decide +kernel
theorem dX3_moodBehind_17 : decode cX3_moodBehind 17 = .ok (.isub, 1) := by decide +kernel
theorem dX3_moodBehind_18 : decode cX3_moodBehind 18 = .ok (.ireturn, 1) := by decide +kernel
set_option maxRecDepth 20000 in
theorem ggX3_lay_X4_pleases : GoodIn wsX3_lay wsX4_pleases := goodIn_r _ [12, 13, 14, 15, 16, 17, 11, 18, 19, 20, 21, 22, 23, 24, 25, 26, 27, 28, 29, 30, 31, 32, 33, 34, 35, 36, 37, 38, 39, 69, 70, 71, 72, 73, 74, 75, 76, 77, 78, 79, 80, 81, 82] (by decide +kernel) (by decide +kernel)
set_option maxRecDepth 20000 in
theorem gX3_lay_X4_pleases : GoodIn wsX3_lay (wsV RX3 40 RX4 yX4_pleases wsX4_pleases) := goodIn_app (goodIn_of _ (by decide +kernel)) ggX3_lay_X4_pleases
set_option maxRecDepth 20000 in
theorem ggX3_lay_X4_groupsBy : GoodIn wsX3_lay wsX4_groupsBy := goodIn_r _ [43, 24, 69, 70, 71, 72, 73, 74, 75, 76, 77, 78, 79, 80, 81, 82] (by decide +kernel) (by decide +kernel)
set_option maxRecDepth 20000 in
theorem gX3_lay_X4_groupsBy : GoodIn wsX3_lay (wsV RX3 44 RX4 yX4_groupsBy wsX4_groupsBy) := goodIn_app (goodIn_of _ (by decide +kernel)) ggX3_lay_X4_groupsBy
set_option maxRecDepth 20000 in
theorem ggX3_lay_X3_choose : GoodIn wsX3_lay wsX3_choose := goodIn_r _ [48, 2, 3, 4, 5, 1, 7, 49, 50, 51, 52, 47, 53, 54, 55, 56, 57, 58, 59, 11, 60, 61, 20, 21, 22, 23, 24, 69, 70, 71, 72, 73, 74, 75, 76, 77, 78, 79, 80, 81, 82, 83, 84, 85, 86, 87, 88, 89] (by decide +kernel) (by decide +kernel)
set_option maxRecDepth 20000 in
theorem gX3_lay_X3_choose : GoodIn wsX3_lay (wsV RX3 51 RX3 yX3_choose wsX3_choose) := goodIn_app (goodIn_of _ (by decide +kernel)) ggX3_lay_X3_choose
set_option maxRecDepth 20000 in
theorem ggX3_lay_X3_follow : GoodIn wsX3_lay wsX3_follow := goodIn_r _ [65, 66, 6, 49, 67, 68, 1, 50, 51, 52, 47, 53, 7, 54, 55, 56, 2, 3, 4, 5, 83, 84, 85, 86, 87, 88, 89] (by decide +kernel) (by decide +kernel)
set_option maxRecDepth 20000 in
theorem gX3_lay_X3_follow : GoodIn wsX3_lay (wsV RX3 58 RX3 yX3_follow wsX3_follow) := goodIn_app (goodIn_of _ (by decide +kernel)) ggX3_lay_X3_follow
theorem dX3_lay_0 : decode cX3_lay 0 = .ok (.iconst 0, 1) := by decide +kernel
theorem dX3_lay_1 : decode cX3_lay 1 = .ok (.istore_n 3, 1) := by decide +kernel
theorem dX3_lay_2 : decode cX3_lay 2 = .ok (.iload_n 3, 1) := by decide +kernel
theorem dX3_lay_3 : decode cX3_lay 3 = .ok (.aload_n 1, 1) := by decide +kernel
theorem dX3_lay_4 : decode cX3_lay 4 = .ok (.getfield 34, 3) := by decide +kernel
theorem dX3_lay_7 : decode cX3_lay 7 = .ok (.if_icmp .ge 29, 3) := by decide +kernel
theorem dX3_lay_10 : decode cX3_lay 10 = .ok (.iload_n 3, 1) := by decide +kernel
theorem dX3_lay_11 : decode cX3_lay 11 = .ok (.aload_n 0, 1) := by decide +kernel
theorem dX3_lay_12 : decode cX3_lay 12 = .ok (.getfield 9, 3) := by decide +kernel
theorem dX3_lay_15 : decode cX3_lay 15 = .ok (.arraylength, 1) := by decide +kernel
theorem dX3_lay_16 : decode cX3_lay 16 = .ok (.if_icmp .ge 20, 3) := by decide +kernel
theorem dX3_lay_19 : decode cX3_lay 19 = .ok (.aload_n 0, 1) := by decide +kernel
theorem dX3_lay_20 : decode cX3_lay 20 = .ok (.getfield 9, 3) := by decide +kernel
theorem dX3_lay_23 : decode cX3_lay 23 = .ok (.iload_n 3, 1) := by decide +kernel
theorem dX3_lay_24 : decode cX3_lay 24 = .ok (.aload_n 1, 1) := by decide +kernel
theorem dX3_lay_25 : decode cX3_lay 25 = .ok (.iload_n 3, 1) := by decide +kernel
theorem dX3_lay_26 : decode cX3_lay 26 = .ok (.invokevirtual 40, 3) := by decide +kernel
theorem dX3_lay_29 : decode cX3_lay 29 = .ok (.bastore, 1) := by decide +kernel
theorem dX3_lay_30 : decode cX3_lay 30 = .ok (.iinc 3 1, 3) := by decide +kernel
theorem dX3_lay_33 : decode cX3_lay 33 = .ok (.goto (-31), 3) := by decide +kernel
theorem dX3_lay_36 : decode cX3_lay 36 = .ok (.aload_n 0, 1) := by decide +kernel
theorem dX3_lay_37 : decode cX3_lay 37 = .ok (.bipush 6, 2) := by decide +kernel
theorem dX3_lay_39 : decode cX3_lay 39 = .ok (.aload_n 1, 1) := by decide +kernel
theorem dX3_lay_40 : decode cX3_lay 40 = .ok (.iload_n 2, 1) := by decide +kernel
theorem dX3_lay_41 : decode cX3_lay 41 = .ok (.invokevirtual 44, 3) := by decide +kernel
theorem dX3_lay_44 : decode cX3_lay 44 = .ok (.invokestatic 28, 3) := by decide +kernel
theorem dX3_lay_47 : decode cX3_lay 47 = .ok (.putfield 48, 3) := by decide +kernel
theorem dX3_lay_50 : decode cX3_lay 50 = .ok (.iconst 0, 1) := by decide +kernel
theorem dX3_lay_51 : decode cX3_lay 51 = .ok (.istore_n 3, 1) := by decide +kernel
theorem dX3_lay_52 : decode cX3_lay 52 = .ok (.iload_n 3, 1) := by decide +kernel
theorem dX3_lay_53 : decode cX3_lay 53 = .ok (.bipush 10, 2) := by decide +kernel
theorem dX3_lay_55 : decode cX3_lay 55 = .ok (.if_icmp .ge 32, 3) := by decide +kernel
theorem dX3_lay_58 : decode cX3_lay 58 = .ok (.aload_n 0, 1) := by decide +kernel
theorem dX3_lay_59 : decode cX3_lay 59 = .ok (.getfield 15, 3) := by decide +kernel
theorem dX3_lay_62 : decode cX3_lay 62 = .ok (.aload_n 0, 1) := by decide +kernel
theorem dX3_lay_63 : decode cX3_lay 63 = .ok (.getfield 48, 3) := by decide +kernel
theorem dX3_lay_66 : decode cX3_lay 66 = .ok (.bipush 10, 2) := by decide +kernel
theorem dX3_lay_68 : decode cX3_lay 68 = .ok (.imul, 1) := by decide +kernel
theorem dX3_lay_69 : decode cX3_lay 69 = .ok (.iload_n 3, 1) := by decide +kernel
theorem dX3_lay_70 : decode cX3_lay 70 = .ok (.iadd, 1) := by decide +kernel
theorem dX3_lay_71 : decode cX3_lay 71 = .ok (.iload_n 3, 1) := by decide +kernel
theorem dX3_lay_72 : decode cX3_lay 72 = .ok (.ifCond .le 7, 3) := by decide +kernel
theorem dX3_lay_75 : decode cX3_lay 75 = .ok (.iconst 0, 1) := by decide +kernel
theorem dX3_lay_76 : decode cX3_lay 76 = .ok (.goto 4, 3) := by decide +kernel
theorem dX3_lay_79 : decode cX3_lay 79 = .ok (.iconst (-1), 1) := by decide +kernel
theorem dX3_lay_80 : decode cX3_lay 80 = .ok (.iastore, 1) := by decide +kernel
theorem dX3_lay_81 : decode cX3_lay 81 = .ok (.iinc 3 1, 3) := by decide +kernel
theorem dX3_lay_84 : decode cX3_lay 84 = .ok (.goto (-32), 3) := by decide +kernel
theorem dX3_lay_87 : decode cX3_lay 87 = .ok (.aload_n 0, 1) := by decide +kernel
theorem dX3_lay_88 : decode cX3_lay 88 = .ok (.getfield 48, 3) := by decide +kernel
theorem dX3_lay_91 : decode cX3_lay 91 = .ok (.iconst 1, 1) := by decide +kernel
theorem dX3_lay_92 : decode cX3_lay 92 = .ok (.isub, 1) := by decide +kernel
theorem dX3_lay_93 : decode cX3_lay 93 = .ok (.istore_n 3, 1) := by decide +kernel
theorem dX3_lay_94 : decode cX3_lay 94 = .ok (.iload_n 3, 1) := by decide +kernel
theorem dX3_lay_95 : decode cX3_lay 95 = .ok (.ifCond .lt 44, 3) := by decide +kernel
theorem dX3_lay_98 : decode cX3_lay 98 = .ok (.aload_n 0, 1) := by decide +kernel
theorem dX3_lay_99 : decode cX3_lay 99 = .ok (.getfield 15, 3) := by decide +kernel
theorem dX3_lay_102 : decode cX3_lay 102 = .ok (.iload_n 3, 1) := by decide +kernel
theorem dX3_lay_103 : decode cX3_lay 103 = .ok (.bipush 10, 2) := by decide +kernel
theorem dX3_lay_105 : decode cX3_lay 105 = .ok (.imul, 1) := by decide +kernel
theorem dX3_lay_106 : decode cX3_lay 106 = .ok (.iconst (-1), 1) := by decide +kernel
theorem dX3_lay_107 : decode cX3_lay 107 = .ok (.iastore, 1) := by decide +kernel
theorem dX3_lay_108 : decode cX3_lay 108 = .ok (.iconst 1, 1) := by decide +kernel
theorem dX3_lay_109 : decode cX3_lay 109 = .ok (.istore 4, 2) := by decide +kernel
theorem dX3_lay_111 : decode cX3_lay 111 = .ok (.iload 4, 2) := by decide +kernel
theorem dX3_lay_113 : decode cX3_lay 113 = .ok (.bipush 10, 2) := by decide +kernel
theorem dX3_lay_115 : decode cX3_lay 115 = .ok (.if_icmp .ge 18, 3) := by decide +kernel
theorem dX3_lay_118 : decode cX3_lay 118 = .ok (.aload_n 0, 1) := by decide +kernel
theorem dX3_lay_119 : decode cX3_lay 119 = .ok (.aload_n 1, 1) := by decide +kernel
theorem dX3_lay_120 : decode cX3_lay 120 = .ok (.iload_n 2, 1) := by decide +kernel
theorem dX3_lay_121 : decode cX3_lay 121 = .ok (.iload_n 3, 1) := by decide +kernel
theorem dX3_lay_122 : decode cX3_lay 122 = .ok (.iload 4, 2) := by decide +kernel
theorem dX3_lay_124 : decode cX3_lay 124 = .ok (.invokevirtual 51, 3) := by decide +kernel
theorem dX3_lay_127 : decode cX3_lay 127 = .ok (.iinc 4 1, 3) := by decide +kernel
theorem dX3_lay_130 : decode cX3_lay 130 = .ok (.goto (-19), 3) := by decide +kernel
theorem dX3_lay_133 : decode cX3_lay 133 = .ok (.iinc 3 (-1), 3) := by decide +kernel
theorem dX3_lay_136 : decode cX3_lay 136 = .ok (.goto (-42), 3) := by decide +kernel
theorem dX3_lay_139 : decode cX3_lay 139 = .ok (.aload_n 0, 1) := by decide +kernel
theorem dX3_lay_140 : decode cX3_lay 140 = .ok (.aload_n 1, 1) := by decide +kernel
theorem dX3_lay_141 : decode cX3_lay 141 = .ok (.getfield 55, 3) := by decide +kernel
theorem dX3_lay_144 : decode cX3_lay 144 = .ok (.invokevirtual 58, 3) := by decide +kernel
theorem dX3_lay_147 : decode cX3_lay 147 = .ok (.return_, 1) := by decide +kernel
set_option maxRecDepth 20000 in
theorem ggX3_choose_X3_leastFrom : GoodIn wsX3_choose wsX3_leastFrom := goodIn_r _ [12, 6, 41, 42, 43, 44, 45, 46, 47] (by decide +kernel) (by decide +kernel)
set_option maxRecDepth 20000 in
theorem gX3_choose_X3_leastFrom : GoodIn wsX3_choose (wsV RX3 62 RX3 yX3_leastFrom wsX3_leastFrom) := goodIn_app (goodIn_of _ (by decide +kernel)) ggX3_choose_X3_leastFrom
set_option maxRecDepth 20000 in
theorem ggX3_choose_X3_moodBehind : GoodIn wsX3_choose wsX3_moodBehind := goodIn_r _ [15, 1, 2, 3, 4] (by decide +kernel) (by decide +kernel)
set_option maxRecDepth 20000 in
theorem gX3_choose_X3_moodBehind : GoodIn wsX3_choose (va_wsS RX3 65 yX3_moodBehind wsX3_moodBehind) := goodIn_app (goodIn_of _ (by decide +kernel)) ggX3_choose_X3_moodBehind
set_option maxRecDepth 20000 in
theorem ggX3_choose_X4_worthOf : GoodIn wsX3_choose wsX4_worthOf := goodIn_r _ [20, 21, 22, 23, 24, 19, 25, 26, 27, 28, 29, 30, 31, 32, 33, 34, 35, 36, 37, 38, 39, 40] (by decide +kernel) (by decide +kernel)
set_option maxRecDepth 20000 in
theorem gX3_choose_X4_worthOf : GoodIn wsX3_choose (wsV RX3 69 RX4 yX4_worthOf wsX4_worthOf) := goodIn_app (goodIn_of _ (by decide +kernel)) ggX3_choose_X4_worthOf
theorem dX3_choose_0 : decode cX3_choose 0 = .ok (.aload_n 0, 1) := by decide +kernel
theorem dX3_choose_1 : decode cX3_choose 1 = .ok (.iload_n 3, 1) := by decide +kernel
theorem dX3_choose_2 : decode cX3_choose 2 = .ok (.iconst 1, 1) := by decide +kernel
theorem dX3_choose_3 : decode cX3_choose 3 = .ok (.iadd, 1) := by decide +kernel
theorem dX3_choose_4 : decode cX3_choose 4 = .ok (.iload 4, 2) := by decide +kernel
theorem dX3_choose_6 : decode cX3_choose 6 = .ok (.iconst 2, 1) := by decide +kernel
theorem dX3_choose_7 : decode cX3_choose 7 = .ok (.isub, 1) := by decide +kernel
theorem dX3_choose_8 : decode cX3_choose 8 = .ok (.invokevirtual 62, 3) := by decide +kernel
theorem dX3_choose_11 : decode cX3_choose 11 = .ok (.istore 5, 2) := by decide +kernel
theorem dX3_choose_13 : decode cX3_choose 13 = .ok (.bipush 12, 2) := by decide +kernel
theorem dX3_choose_15 : decode cX3_choose 15 = .ok (.istore 6, 2) := by decide +kernel
theorem dX3_choose_17 : decode cX3_choose 17 = .ok (.iload_n 3, 1) := by decide +kernel
theorem dX3_choose_18 : decode cX3_choose 18 = .ok (.iconst 1, 1) := by decide +kernel
theorem dX3_choose_19 : decode cX3_choose 19 = .ok (.iadd, 1) := by decide +kernel
theorem dX3_choose_20 : decode cX3_choose 20 = .ok (.iload_n 2, 1) := by decide +kernel
theorem dX3_choose_21 : decode cX3_choose 21 = .ok (.imul, 1) := by decide +kernel
theorem dX3_choose_22 : decode cX3_choose 22 = .ok (.aload_n 1, 1) := by decide +kernel
theorem dX3_choose_23 : decode cX3_choose 23 = .ok (.getfield 34, 3) := by decide +kernel
theorem dX3_choose_26 : decode cX3_choose 26 = .ok (.invokestatic 28, 3) := by decide +kernel
theorem dX3_choose_29 : decode cX3_choose 29 = .ok (.istore 7, 2) := by decide +kernel
theorem dX3_choose_31 : decode cX3_choose 31 = .ok (.iload_n 3, 1) := by decide +kernel
theorem dX3_choose_32 : decode cX3_choose 32 = .ok (.iload_n 2, 1) := by decide +kernel
theorem dX3_choose_33 : decode cX3_choose 33 = .ok (.imul, 1) := by decide +kernel
theorem dX3_choose_34 : decode cX3_choose 34 = .ok (.istore 8, 2) := by decide +kernel
theorem dX3_choose_36 : decode cX3_choose 36 = .ok (.iload 8, 2) := by decide +kernel
theorem dX3_choose_38 : decode cX3_choose 38 = .ok (.iload 7, 2) := by decide +kernel
theorem dX3_choose_40 : decode cX3_choose 40 = .ok (.if_icmp .ge 78, 3) := by decide +kernel
theorem dX3_choose_43 : decode cX3_choose 43 = .ok (.iload 8, 2) := by decide +kernel
theorem dX3_choose_45 : decode cX3_choose 45 = .ok (.aload_n 0, 1) := by decide +kernel
theorem dX3_choose_46 : decode cX3_choose 46 = .ok (.getfield 9, 3) := by decide +kernel
theorem dX3_choose_49 : decode cX3_choose 49 = .ok (.arraylength, 1) := by decide +kernel
theorem dX3_choose_50 : decode cX3_choose 50 = .ok (.if_icmp .ge 68, 3) := by decide +kernel
theorem dX3_choose_53 : decode cX3_choose 53 = .ok (.aload_n 0, 1) := by decide +kernel
theorem dX3_choose_54 : decode cX3_choose 54 = .ok (.iload_n 3, 1) := by decide +kernel
theorem dX3_choose_55 : decode cX3_choose 55 = .ok (.iconst 1, 1) := by decide +kernel
theorem dX3_choose_56 : decode cX3_choose 56 = .ok (.iadd, 1) := by decide +kernel
theorem dX3_choose_57 : decode cX3_choose 57 = .ok (.iload 4, 2) := by decide +kernel
theorem dX3_choose_59 : decode cX3_choose 59 = .ok (.aload_n 0, 1) := by decide +kernel
theorem dX3_choose_60 : decode cX3_choose 60 = .ok (.getfield 9, 3) := by decide +kernel
theorem dX3_choose_63 : decode cX3_choose 63 = .ok (.iload 8, 2) := by decide +kernel
theorem dX3_choose_65 : decode cX3_choose 65 = .ok (.baload, 1) := by decide +kernel
theorem dX3_choose_66 : decode cX3_choose 66 = .ok (.invokestatic 65, 3) := by decide +kernel
theorem dX3_choose_69 : decode cX3_choose 69 = .ok (.invokevirtual 62, 3) := by decide +kernel
theorem dX3_choose_72 : decode cX3_choose 72 = .ok (.istore 9, 2) := by decide +kernel
theorem dX3_choose_74 : decode cX3_choose 74 = .ok (.iload 9, 2) := by decide +kernel
theorem dX3_choose_76 : decode cX3_choose 76 = .ok (.aload_n 1, 1) := by decide +kernel
theorem dX3_choose_77 : decode cX3_choose 77 = .ok (.iload 8, 2) := by decide +kernel
theorem dX3_choose_79 : decode cX3_choose 79 = .ok (.invokevirtual 69, 3) := by decide +kernel
theorem dX3_choose_82 : decode cX3_choose 82 = .ok (.iadd, 1) := by decide +kernel
theorem dX3_choose_83 : decode cX3_choose 83 = .ok (.istore 10, 2) := by decide +kernel
theorem dX3_choose_85 : decode cX3_choose 85 = .ok (.iload 9, 2) := by decide +kernel
theorem dX3_choose_87 : decode cX3_choose 87 = .ok (.iconst (-1), 1) := by decide +kernel
theorem dX3_choose_88 : decode cX3_choose 88 = .ok (.if_icmp .eq 24, 3) := by decide +kernel
theorem dX3_choose_91 : decode cX3_choose 91 = .ok (.iload 5, 2) := by decide +kernel
theorem dX3_choose_93 : decode cX3_choose 93 = .ok (.iconst (-1), 1) := by decide +kernel
theorem dX3_choose_94 : decode cX3_choose 94 = .ok (.if_icmp .eq 10, 3) := by decide +kernel
theorem dX3_choose_97 : decode cX3_choose 97 = .ok (.iload 10, 2) := by decide +kernel
theorem dX3_choose_99 : decode cX3_choose 99 = .ok (.iload 5, 2) := by decide +kernel
theorem dX3_choose_101 : decode cX3_choose 101 = .ok (.if_icmp .ge 11, 3) := by decide +kernel
theorem dX3_choose_104 : decode cX3_choose 104 = .ok (.iload 10, 2) := by decide +kernel
theorem dX3_choose_106 : decode cX3_choose 106 = .ok (.istore 5, 2) := by decide +kernel
theorem dX3_choose_108 : decode cX3_choose 108 = .ok (.iload 8, 2) := by decide +kernel
theorem dX3_choose_110 : decode cX3_choose 110 = .ok (.istore 6, 2) := by decide +kernel
theorem dX3_choose_112 : decode cX3_choose 112 = .ok (.iinc 8 1, 3) := by decide +kernel
theorem dX3_choose_115 : decode cX3_choose 115 = .ok (.goto (-79), 3) := by decide +kernel
theorem dX3_choose_118 : decode cX3_choose 118 = .ok (.aload_n 0, 1) := by decide +kernel
theorem dX3_choose_119 : decode cX3_choose 119 = .ok (.getfield 15, 3) := by decide +kernel
theorem dX3_choose_122 : decode cX3_choose 122 = .ok (.iload_n 3, 1) := by decide +kernel
theorem dX3_choose_123 : decode cX3_choose 123 = .ok (.bipush 10, 2) := by decide +kernel
theorem dX3_choose_125 : decode cX3_choose 125 = .ok (.imul, 1) := by decide +kernel
theorem dX3_choose_126 : decode cX3_choose 126 = .ok (.iload 4, 2) := by decide +kernel
theorem dX3_choose_128 : decode cX3_choose 128 = .ok (.iadd, 1) := by decide +kernel
theorem dX3_choose_129 : decode cX3_choose 129 = .ok (.iload 5, 2) := by decide +kernel
theorem dX3_choose_131 : decode cX3_choose 131 = .ok (.iastore, 1) := by decide +kernel
theorem dX3_choose_132 : decode cX3_choose 132 = .ok (.aload_n 0, 1) := by decide +kernel
theorem dX3_choose_133 : decode cX3_choose 133 = .ok (.getfield 19, 3) := by decide +kernel
theorem dX3_choose_136 : decode cX3_choose 136 = .ok (.iload_n 3, 1) := by decide +kernel
theorem dX3_choose_137 : decode cX3_choose 137 = .ok (.bipush 10, 2) := by decide +kernel
theorem dX3_choose_139 : decode cX3_choose 139 = .ok (.imul, 1) := by decide +kernel
theorem dX3_choose_140 : decode cX3_choose 140 = .ok (.iload 4, 2) := by decide +kernel
theorem dX3_choose_142 : decode cX3_choose 142 = .ok (.iadd, 1) := by decide +kernel
theorem dX3_choose_143 : decode cX3_choose 143 = .ok (.iload 6, 2) := by decide +kernel
theorem dX3_choose_145 : decode cX3_choose 145 = .ok (.iastore, 1) := by decide +kernel
theorem dX3_choose_146 : decode cX3_choose 146 = .ok (.return_, 1) := by decide +kernel
theorem dX3_leastFrom_0 : decode cX3_leastFrom 0 = .ok (.iload_n 2, 1) := by decide +kernel
theorem dX3_leastFrom_1 : decode cX3_leastFrom 1 = .ok (.ifCond .le 33, 3) := by decide +kernel
theorem dX3_leastFrom_4 : decode cX3_leastFrom 4 = .ok (.iload_n 2, 1) := by decide +kernel
theorem dX3_leastFrom_5 : decode cX3_leastFrom 5 = .ok (.bipush 10, 2) := by decide +kernel
theorem dX3_leastFrom_7 : decode cX3_leastFrom 7 = .ok (.if_icmp .ge 27, 3) := by decide +kernel
theorem dX3_leastFrom_10 : decode cX3_leastFrom 10 = .ok (.iload_n 1, 1) := by decide +kernel
theorem dX3_leastFrom_11 : decode cX3_leastFrom 11 = .ok (.ifCond .lt 23, 3) := by decide +kernel
theorem dX3_leastFrom_14 : decode cX3_leastFrom 14 = .ok (.iload_n 1, 1) := by decide +kernel
theorem dX3_leastFrom_15 : decode cX3_leastFrom 15 = .ok (.bipush 6, 2) := by decide +kernel
theorem dX3_leastFrom_17 : decode cX3_leastFrom 17 = .ok (.if_icmp .gt 17, 3) := by decide +kernel
theorem dX3_leastFrom_20 : decode cX3_leastFrom 20 = .ok (.aload_n 0, 1) := by decide +kernel
theorem dX3_leastFrom_21 : decode cX3_leastFrom 21 = .ok (.getfield 15, 3) := by decide +kernel
theorem dX3_leastFrom_24 : decode cX3_leastFrom 24 = .ok (.iload_n 1, 1) := by decide +kernel
theorem dX3_leastFrom_25 : decode cX3_leastFrom 25 = .ok (.bipush 10, 2) := by decide +kernel
theorem dX3_leastFrom_27 : decode cX3_leastFrom 27 = .ok (.imul, 1) := by decide +kernel
theorem dX3_leastFrom_28 : decode cX3_leastFrom 28 = .ok (.iload_n 2, 1) := by decide +kernel
theorem dX3_leastFrom_29 : decode cX3_leastFrom 29 = .ok (.iadd, 1) := by decide +kernel
theorem dX3_leastFrom_30 : decode cX3_leastFrom 30 = .ok (.iaload, 1) := by decide +kernel
theorem dX3_leastFrom_31 : decode cX3_leastFrom 31 = .ok (.goto 4, 3) := by decide +kernel
theorem dX3_leastFrom_34 : decode cX3_leastFrom 34 = .ok (.iconst (-1), 1) := by decide +kernel
theorem dX3_leastFrom_35 : decode cX3_leastFrom 35 = .ok (.ireturn, 1) := by decide +kernel
set_option maxRecDepth 20000 in
theorem ggX3_follow_X3_leastFrom : GoodIn wsX3_follow wsX3_leastFrom := goodIn_r _ [11, 12, 20, 21, 22, 23, 24, 25, 26] (by decide +kernel) (by decide +kernel)
set_option maxRecDepth 20000 in
theorem gX3_follow_X3_leastFrom : GoodIn wsX3_follow (wsV RX3 62 RX3 yX3_leastFrom wsX3_leastFrom) := goodIn_app (goodIn_of _ (by decide +kernel)) ggX3_follow_X3_leastFrom
set_option maxRecDepth 20000 in
theorem ggX3_follow_X3_moodBehind : GoodIn wsX3_follow wsX3_moodBehind := goodIn_r _ [15, 16, 17, 18, 19] (by decide +kernel) (by decide +kernel)
set_option maxRecDepth 20000 in
theorem gX3_follow_X3_moodBehind : GoodIn wsX3_follow (va_wsS RX3 65 yX3_moodBehind wsX3_moodBehind) := goodIn_app (goodIn_of _ (by decide +kernel)) ggX3_follow_X3_moodBehind
theorem dX3_follow_0 : decode cX3_follow 0 = .ok (.aload_n 0, 1) := by decide +kernel
theorem dX3_follow_1 : decode cX3_follow 1 = .ok (.aload_n 0, 1) := by decide +kernel
theorem dX3_follow_2 : decode cX3_follow 2 = .ok (.iconst 0, 1) := by decide +kernel
theorem dX3_follow_3 : decode cX3_follow 3 = .ok (.iload_n 1, 1) := by decide +kernel
theorem dX3_follow_4 : decode cX3_follow 4 = .ok (.invokevirtual 62, 3) := by decide +kernel
theorem dX3_follow_7 : decode cX3_follow 7 = .ok (.putfield 72, 3) := by decide +kernel
theorem dX3_follow_10 : decode cX3_follow 10 = .ok (.aload_n 0, 1) := by decide +kernel
theorem dX3_follow_11 : decode cX3_follow 11 = .ok (.getfield 72, 3) := by decide +kernel
theorem dX3_follow_14 : decode cX3_follow 14 = .ok (.iconst (-1), 1) := by decide +kernel
theorem dX3_follow_15 : decode cX3_follow 15 = .ok (.if_icmp .ne 4, 3) := by decide +kernel
theorem dX3_follow_18 : decode cX3_follow 18 = .ok (.return_, 1) := by decide +kernel
theorem dX3_follow_19 : decode cX3_follow 19 = .ok (.iload_n 1, 1) := by decide +kernel
theorem dX3_follow_20 : decode cX3_follow 20 = .ok (.istore_n 2, 1) := by decide +kernel
theorem dX3_follow_21 : decode cX3_follow 21 = .ok (.iconst 0, 1) := by decide +kernel
theorem dX3_follow_22 : decode cX3_follow 22 = .ok (.istore_n 3, 1) := by decide +kernel
theorem dX3_follow_23 : decode cX3_follow 23 = .ok (.iload_n 3, 1) := by decide +kernel
theorem dX3_follow_24 : decode cX3_follow 24 = .ok (.aload_n 0, 1) := by decide +kernel
theorem dX3_follow_25 : decode cX3_follow 25 = .ok (.getfield 48, 3) := by decide +kernel
theorem dX3_follow_28 : decode cX3_follow 28 = .ok (.if_icmp .ge 80, 3) := by decide +kernel
theorem dX3_follow_31 : decode cX3_follow 31 = .ok (.iload_n 2, 1) := by decide +kernel
theorem dX3_follow_32 : decode cX3_follow 32 = .ok (.ifCond .le 76, 3) := by decide +kernel
theorem dX3_follow_35 : decode cX3_follow 35 = .ok (.iload_n 2, 1) := by decide +kernel
theorem dX3_follow_36 : decode cX3_follow 36 = .ok (.bipush 10, 2) := by decide +kernel
theorem dX3_follow_38 : decode cX3_follow 38 = .ok (.if_icmp .ge 70, 3) := by decide +kernel
theorem dX3_follow_41 : decode cX3_follow 41 = .ok (.aload_n 0, 1) := by decide +kernel
theorem dX3_follow_42 : decode cX3_follow 42 = .ok (.getfield 19, 3) := by decide +kernel
theorem dX3_follow_45 : decode cX3_follow 45 = .ok (.iload_n 3, 1) := by decide +kernel
theorem dX3_follow_46 : decode cX3_follow 46 = .ok (.bipush 10, 2) := by decide +kernel
theorem dX3_follow_48 : decode cX3_follow 48 = .ok (.imul, 1) := by decide +kernel
theorem dX3_follow_49 : decode cX3_follow 49 = .ok (.iload_n 2, 1) := by decide +kernel
theorem dX3_follow_50 : decode cX3_follow 50 = .ok (.iadd, 1) := by decide +kernel
theorem dX3_follow_51 : decode cX3_follow 51 = .ok (.iaload, 1) := by decide +kernel
theorem dX3_follow_52 : decode cX3_follow 52 = .ok (.istore 4, 2) := by decide +kernel
theorem dX3_follow_54 : decode cX3_follow 54 = .ok (.aload_n 0, 1) := by decide +kernel
theorem dX3_follow_55 : decode cX3_follow 55 = .ok (.getfield 22, 3) := by decide +kernel
theorem dX3_follow_58 : decode cX3_follow 58 = .ok (.iload_n 3, 1) := by decide +kernel
theorem dX3_follow_59 : decode cX3_follow 59 = .ok (.iload 4, 2) := by decide +kernel
theorem dX3_follow_61 : decode cX3_follow 61 = .ok (.iastore, 1) := by decide +kernel
theorem dX3_follow_62 : decode cX3_follow 62 = .ok (.aload_n 0, 1) := by decide +kernel
theorem dX3_follow_63 : decode cX3_follow 63 = .ok (.getfield 25, 3) := by decide +kernel
theorem dX3_follow_66 : decode cX3_follow 66 = .ok (.iload_n 3, 1) := by decide +kernel
theorem dX3_follow_67 : decode cX3_follow 67 = .ok (.iload_n 2, 1) := by decide +kernel
theorem dX3_follow_68 : decode cX3_follow 68 = .ok (.iastore, 1) := by decide +kernel
theorem dX3_follow_69 : decode cX3_follow 69 = .ok (.iload 4, 2) := by decide +kernel
theorem dX3_follow_71 : decode cX3_follow 71 = .ok (.ifCond .lt 27, 3) := by decide +kernel
theorem dX3_follow_74 : decode cX3_follow 74 = .ok (.iload 4, 2) := by decide +kernel
theorem dX3_follow_76 : decode cX3_follow 76 = .ok (.aload_n 0, 1) := by decide +kernel
theorem dX3_follow_77 : decode cX3_follow 77 = .ok (.getfield 9, 3) := by decide +kernel
theorem dX3_follow_80 : decode cX3_follow 80 = .ok (.arraylength, 1) := by decide +kernel
theorem dX3_follow_81 : decode cX3_follow 81 = .ok (.if_icmp .ge 17, 3) := by decide +kernel
theorem dX3_follow_84 : decode cX3_follow 84 = .ok (.iload_n 2, 1) := by decide +kernel
theorem dX3_follow_85 : decode cX3_follow 85 = .ok (.aload_n 0, 1) := by decide +kernel
theorem dX3_follow_86 : decode cX3_follow 86 = .ok (.getfield 9, 3) := by decide +kernel
theorem dX3_follow_89 : decode cX3_follow 89 = .ok (.iload 4, 2) := by decide +kernel
theorem dX3_follow_91 : decode cX3_follow 91 = .ok (.baload, 1) := by decide +kernel
theorem dX3_follow_92 : decode cX3_follow 92 = .ok (.invokestatic 65, 3) := by decide +kernel
theorem dX3_follow_95 : decode cX3_follow 95 = .ok (.goto 6, 3) := by decide +kernel
theorem dX3_follow_98 : decode cX3_follow 98 = .ok (.iload_n 2, 1) := by decide +kernel
theorem dX3_follow_99 : decode cX3_follow 99 = .ok (.iconst 2, 1) := by decide +kernel
theorem dX3_follow_100 : decode cX3_follow 100 = .ok (.isub, 1) := by decide +kernel
theorem dX3_follow_101 : decode cX3_follow 101 = .ok (.istore_n 2, 1) := by decide +kernel
theorem dX3_follow_102 : decode cX3_follow 102 = .ok (.iinc 3 1, 3) := by decide +kernel
theorem dX3_follow_105 : decode cX3_follow 105 = .ok (.goto (-82), 3) := by decide +kernel
theorem dX3_follow_108 : decode cX3_follow 108 = .ok (.return_, 1) := by decide +kernel
theorem dX3_worth_0 : decode cX3_worth 0 = .ok (.aload_n 0, 1) := by decide +kernel
theorem dX3_worth_1 : decode cX3_worth 1 = .ok (.getfield 72, 3) := by decide +kernel
theorem dX3_worth_4 : decode cX3_worth 4 = .ok (.ireturn, 1) := by decide +kernel
theorem dX3_groups_0 : decode cX3_groups 0 = .ok (.aload_n 0, 1) := by decide +kernel
theorem dX3_groups_1 : decode cX3_groups 1 = .ok (.getfield 48, 3) := by decide +kernel
theorem dX3_groups_4 : decode cX3_groups 4 = .ok (.ireturn, 1) := by decide +kernel
theorem dX3_giftOf_0 : decode cX3_giftOf 0 = .ok (.aload_n 0, 1) := by decide +kernel
theorem dX3_giftOf_1 : decode cX3_giftOf 1 = .ok (.getfield 72, 3) := by decide +kernel
theorem dX3_giftOf_4 : decode cX3_giftOf 4 = .ok (.iconst (-1), 1) := by decide +kernel
theorem dX3_giftOf_5 : decode cX3_giftOf 5 = .ok (.if_icmp .eq 24, 3) := by decide +kernel
theorem dX3_giftOf_8 : decode cX3_giftOf 8 = .ok (.iload_n 1, 1) := by decide +kernel
theorem dX3_giftOf_9 : decode cX3_giftOf 9 = .ok (.ifCond .lt 20, 3) := by decide +kernel
theorem dX3_giftOf_12 : decode cX3_giftOf 12 = .ok (.iload_n 1, 1) := by decide +kernel
theorem dX3_giftOf_13 : decode cX3_giftOf 13 = .ok (.aload_n 0, 1) := by decide +kernel
theorem dX3_giftOf_14 : decode cX3_giftOf 14 = .ok (.getfield 48, 3) := by decide +kernel
theorem dX3_giftOf_17 : decode cX3_giftOf 17 = .ok (.if_icmp .ge 12, 3) := by decide +kernel
theorem dX3_giftOf_20 : decode cX3_giftOf 20 = .ok (.aload_n 0, 1) := by decide +kernel
theorem dX3_giftOf_21 : decode cX3_giftOf 21 = .ok (.getfield 22, 3) := by decide +kernel
theorem dX3_giftOf_24 : decode cX3_giftOf 24 = .ok (.iload_n 1, 1) := by decide +kernel
theorem dX3_giftOf_25 : decode cX3_giftOf 25 = .ok (.iaload, 1) := by decide +kernel
theorem dX3_giftOf_26 : decode cX3_giftOf 26 = .ok (.goto 4, 3) := by decide +kernel
theorem dX3_giftOf_29 : decode cX3_giftOf 29 = .ok (.iconst (-1), 1) := by decide +kernel
theorem dX3_giftOf_30 : decode cX3_giftOf 30 = .ok (.ireturn, 1) := by decide +kernel
theorem dX3_moodAhead_0 : decode cX3_moodAhead 0 = .ok (.aload_n 0, 1) := by decide +kernel
theorem dX3_moodAhead_1 : decode cX3_moodAhead 1 = .ok (.getfield 72, 3) := by decide +kernel
theorem dX3_moodAhead_4 : decode cX3_moodAhead 4 = .ok (.iconst (-1), 1) := by decide +kernel
theorem dX3_moodAhead_5 : decode cX3_moodAhead 5 = .ok (.if_icmp .eq 24, 3) := by decide +kernel
theorem dX3_moodAhead_8 : decode cX3_moodAhead 8 = .ok (.iload_n 1, 1) := by decide +kernel
theorem dX3_moodAhead_9 : decode cX3_moodAhead 9 = .ok (.ifCond .lt 20, 3) := by decide +kernel
theorem dX3_moodAhead_12 : decode cX3_moodAhead 12 = .ok (.iload_n 1, 1) := by decide +kernel
theorem dX3_moodAhead_13 : decode cX3_moodAhead 13 = .ok (.aload_n 0, 1) := by decide +kernel
theorem dX3_moodAhead_14 : decode cX3_moodAhead 14 = .ok (.getfield 48, 3) := by decide +kernel
theorem dX3_moodAhead_17 : decode cX3_moodAhead 17 = .ok (.if_icmp .ge 12, 3) := by decide +kernel
theorem dX3_moodAhead_20 : decode cX3_moodAhead 20 = .ok (.aload_n 0, 1) := by decide +kernel
theorem dX3_moodAhead_21 : decode cX3_moodAhead 21 = .ok (.getfield 25, 3) := by decide +kernel
theorem dX3_moodAhead_24 : decode cX3_moodAhead 24 = .ok (.iload_n 1, 1) := by decide +kernel
theorem dX3_moodAhead_25 : decode cX3_moodAhead 25 = .ok (.iaload, 1) := by decide +kernel
theorem dX3_moodAhead_26 : decode cX3_moodAhead 26 = .ok (.goto 4, 3) := by decide +kernel
theorem dX3_moodAhead_29 : decode cX3_moodAhead 29 = .ok (.iconst 0, 1) := by decide +kernel
theorem dX3_moodAhead_30 : decode cX3_moodAhead 30 = .ok (.ireturn, 1) := by decide +kernel
set_option maxRecDepth 20000 in
theorem ggX4_init_X4_startAnew : GoodIn wsX4_init wsX4_startAnew := goodIn_r _ [17, 18, 19, 10, 20, 21, 22, 23, 24, 25, 26, 27, 28, 29, 30, 31, 32, 33, 34, 35, 36, 37] (by decide +kernel) (by decide +kernel)
set_option maxRecDepth 20000 in
theorem gX4_init_X4_startAnew : GoodIn wsX4_init (wsV RX4 36 RX4 yX4_startAnew wsX4_startAnew) := goodIn_app (goodIn_of _ (by decide +kernel)) ggX4_init_X4_startAnew
theorem dX4_init_0 : decode cX4_init 0 = .ok (.aload_n 0, 1) := by decide +kernel
theorem dX4_init_1 : decode cX4_init 1 = .ok (.invokespecial 3, 3) := by decide +kernel
theorem dX4_init_4 : decode cX4_init 4 = .ok (.aload_n 0, 1) := by decide +kernel
theorem dX4_init_5 : decode cX4_init 5 = .ok (.bipush 12, 2) := by decide +kernel
theorem dX4_init_7 : decode cX4_init 7 = .ok (.newarray .int, 2) := by decide +kernel
theorem dX4_init_9 : decode cX4_init 9 = .ok (.putfield 9, 3) := by decide +kernel
theorem dX4_init_12 : decode cX4_init 12 = .ok (.aload_n 0, 1) := by decide +kernel
theorem dX4_init_13 : decode cX4_init 13 = .ok (.bipush 12, 2) := by decide +kernel
theorem dX4_init_15 : decode cX4_init 15 = .ok (.newarray .int, 2) := by decide +kernel
theorem dX4_init_17 : decode cX4_init 17 = .ok (.putfield 15, 3) := by decide +kernel
theorem dX4_init_20 : decode cX4_init 20 = .ok (.aload_n 0, 1) := by decide +kernel
theorem dX4_init_21 : decode cX4_init 21 = .ok (.bipush 12, 2) := by decide +kernel
theorem dX4_init_23 : decode cX4_init 23 = .ok (.newarray .int, 2) := by decide +kernel
theorem dX4_init_25 : decode cX4_init 25 = .ok (.putfield 18, 3) := by decide +kernel
theorem dX4_init_28 : decode cX4_init 28 = .ok (.aload_n 0, 1) := by decide +kernel
theorem dX4_init_29 : decode cX4_init 29 = .ok (.bipush 12, 2) := by decide +kernel
theorem dX4_init_31 : decode cX4_init 31 = .ok (.newarray .int, 2) := by decide +kernel
theorem dX4_init_33 : decode cX4_init 33 = .ok (.putfield 21, 3) := by decide +kernel
theorem dX4_init_36 : decode cX4_init 36 = .ok (.aload_n 0, 1) := by decide +kernel
theorem dX4_init_37 : decode cX4_init 37 = .ok (.iconst 4, 1) := by decide +kernel
theorem dX4_init_38 : decode cX4_init 38 = .ok (.newarray .int, 2) := by decide +kernel
theorem dX4_init_40 : decode cX4_init 40 = .ok (.putfield 24, 3) := by decide +kernel
theorem dX4_init_43 : decode cX4_init 43 = .ok (.aload_n 0, 1) := by decide +kernel
theorem dX4_init_44 : decode cX4_init 44 = .ok (.iconst 4, 1) := by decide +kernel
theorem dX4_init_45 : decode cX4_init 45 = .ok (.newarray .int, 2) := by decide +kernel
theorem dX4_init_47 : decode cX4_init 47 = .ok (.putfield 27, 3) := by decide +kernel
theorem dX4_init_50 : decode cX4_init 50 = .ok (.aload_n 0, 1) := by decide +kernel
theorem dX4_init_51 : decode cX4_init 51 = .ok (.bipush 6, 2) := by decide +kernel
theorem dX4_init_53 : decode cX4_init 53 = .ok (.newarray .int, 2) := by decide +kernel
theorem dX4_init_55 : decode cX4_init 55 = .ok (.putfield 30, 3) := by decide +kernel
theorem dX4_init_58 : decode cX4_init 58 = .ok (.aload_n 0, 1) := by decide +kernel
theorem dX4_init_59 : decode cX4_init 59 = .ok (.bipush 6, 2) := by decide +kernel
theorem dX4_init_61 : decode cX4_init 61 = .ok (.newarray .int, 2) := by decide +kernel
theorem dX4_init_63 : decode cX4_init 63 = .ok (.putfield 33, 3) := by decide +kernel
theorem dX4_init_66 : decode cX4_init 66 = .ok (.aload_n 0, 1) := by decide +kernel
theorem dX4_init_67 : decode cX4_init 67 = .ok (.invokevirtual 36, 3) := by decide +kernel
theorem dX4_init_70 : decode cX4_init 70 = .ok (.return_, 1) := by decide +kernel
theorem dX4_startAnew_0 : decode cX4_startAnew 0 = .ok (.aload_n 0, 1) := by decide +kernel
theorem dX4_startAnew_1 : decode cX4_startAnew 1 = .ok (.iconst 0, 1) := by decide +kernel
theorem dX4_startAnew_2 : decode cX4_startAnew 2 = .ok (.putfield 39, 3) := by decide +kernel
theorem dX4_startAnew_5 : decode cX4_startAnew 5 = .ok (.aload_n 0, 1) := by decide +kernel
theorem dX4_startAnew_6 : decode cX4_startAnew 6 = .ok (.iconst 0, 1) := by decide +kernel
theorem dX4_startAnew_7 : decode cX4_startAnew 7 = .ok (.putfield 43, 3) := by decide +kernel
theorem dX4_startAnew_10 : decode cX4_startAnew 10 = .ok (.iconst 0, 1) := by decide +kernel
theorem dX4_startAnew_11 : decode cX4_startAnew 11 = .ok (.istore_n 1, 1) := by decide +kernel
theorem dX4_startAnew_12 : decode cX4_startAnew 12 = .ok (.iload_n 1, 1) := by decide +kernel
theorem dX4_startAnew_13 : decode cX4_startAnew 13 = .ok (.aload_n 0, 1) := by decide +kernel
theorem dX4_startAnew_14 : decode cX4_startAnew 14 = .ok (.getfield 27, 3) := by decide +kernel
theorem dX4_startAnew_17 : decode cX4_startAnew 17 = .ok (.arraylength, 1) := by decide +kernel
theorem dX4_startAnew_18 : decode cX4_startAnew 18 = .ok (.if_icmp .ge 16, 3) := by decide +kernel
theorem dX4_startAnew_21 : decode cX4_startAnew 21 = .ok (.aload_n 0, 1) := by decide +kernel
theorem dX4_startAnew_22 : decode cX4_startAnew 22 = .ok (.getfield 27, 3) := by decide +kernel
theorem dX4_startAnew_25 : decode cX4_startAnew 25 = .ok (.iload_n 1, 1) := by decide +kernel
theorem dX4_startAnew_26 : decode cX4_startAnew 26 = .ok (.iconst 5, 1) := by decide +kernel
theorem dX4_startAnew_27 : decode cX4_startAnew 27 = .ok (.iastore, 1) := by decide +kernel
theorem dX4_startAnew_28 : decode cX4_startAnew 28 = .ok (.iinc 1 1, 3) := by decide +kernel
theorem dX4_startAnew_31 : decode cX4_startAnew 31 = .ok (.goto (-19), 3) := by decide +kernel
theorem dX4_startAnew_34 : decode cX4_startAnew 34 = .ok (.aload_n 0, 1) := by decide +kernel
theorem dX4_startAnew_35 : decode cX4_startAnew 35 = .ok (.iconst 3, 1) := by decide +kernel
theorem dX4_startAnew_36 : decode cX4_startAnew 36 = .ok (.putfield 46, 3) := by decide +kernel
theorem dX4_startAnew_39 : decode cX4_startAnew 39 = .ok (.aload_n 0, 1) := by decide +kernel
theorem dX4_startAnew_40 : decode cX4_startAnew 40 = .ok (.bipush 10, 2) := by decide +kernel
theorem dX4_startAnew_42 : decode cX4_startAnew 42 = .ok (.putfield 49, 3) := by decide +kernel
theorem dX4_startAnew_45 : decode cX4_startAnew 45 = .ok (.aload_n 0, 1) := by decide +kernel
theorem dX4_startAnew_46 : decode cX4_startAnew 46 = .ok (.iconst 5, 1) := by decide +kernel
theorem dX4_startAnew_47 : decode cX4_startAnew 47 = .ok (.putfield 52, 3) := by decide +kernel
theorem dX4_startAnew_50 : decode cX4_startAnew 50 = .ok (.aload_n 0, 1) := by decide +kernel
theorem dX4_startAnew_51 : decode cX4_startAnew 51 = .ok (.iconst 0, 1) := by decide +kernel
theorem dX4_startAnew_52 : decode cX4_startAnew 52 = .ok (.putfield 55, 3) := by decide +kernel
theorem dX4_startAnew_55 : decode cX4_startAnew 55 = .ok (.return_, 1) := by decide +kernel
set_option maxRecDepth 20000 in
theorem ggX4_copyFrom_X4_copyRow : GoodIn wsX4_copyFrom wsX4_copyRow := goodIn_r _ [18] (by decide +kernel) (by decide +kernel)
set_option maxRecDepth 20000 in
theorem gX4_copyFrom_X4_copyRow : GoodIn wsX4_copyFrom (va_wsS RX4 58 yX4_copyRow wsX4_copyRow) := goodIn_app (goodIn_of _ (by decide +kernel)) ggX4_copyFrom_X4_copyRow
theorem dX4_copyFrom_0 : decode cX4_copyFrom 0 = .ok (.aload_n 1, 1) := by decide +kernel
theorem dX4_copyFrom_1 : decode cX4_copyFrom 1 = .ok (.getfield 9, 3) := by decide +kernel
theorem dX4_copyFrom_4 : decode cX4_copyFrom 4 = .ok (.aload_n 0, 1) := by decide +kernel
theorem dX4_copyFrom_5 : decode cX4_copyFrom 5 = .ok (.getfield 9, 3) := by decide +kernel
theorem dX4_copyFrom_8 : decode cX4_copyFrom 8 = .ok (.invokestatic 58, 3) := by decide +kernel
theorem dX4_copyFrom_11 : decode cX4_copyFrom 11 = .ok (.aload_n 1, 1) := by decide +kernel
theorem dX4_copyFrom_12 : decode cX4_copyFrom 12 = .ok (.getfield 15, 3) := by decide +kernel
theorem dX4_copyFrom_15 : decode cX4_copyFrom 15 = .ok (.aload_n 0, 1) := by decide +kernel
theorem dX4_copyFrom_16 : decode cX4_copyFrom 16 = .ok (.getfield 15, 3) := by decide +kernel
theorem dX4_copyFrom_19 : decode cX4_copyFrom 19 = .ok (.invokestatic 58, 3) := by decide +kernel
theorem dX4_copyFrom_22 : decode cX4_copyFrom 22 = .ok (.aload_n 1, 1) := by decide +kernel
theorem dX4_copyFrom_23 : decode cX4_copyFrom 23 = .ok (.getfield 18, 3) := by decide +kernel
theorem dX4_copyFrom_26 : decode cX4_copyFrom 26 = .ok (.aload_n 0, 1) := by decide +kernel
theorem dX4_copyFrom_27 : decode cX4_copyFrom 27 = .ok (.getfield 18, 3) := by decide +kernel
theorem dX4_copyFrom_30 : decode cX4_copyFrom 30 = .ok (.invokestatic 58, 3) := by decide +kernel
theorem dX4_copyFrom_33 : decode cX4_copyFrom 33 = .ok (.aload_n 1, 1) := by decide +kernel
theorem dX4_copyFrom_34 : decode cX4_copyFrom 34 = .ok (.getfield 21, 3) := by decide +kernel
theorem dX4_copyFrom_37 : decode cX4_copyFrom 37 = .ok (.aload_n 0, 1) := by decide +kernel
theorem dX4_copyFrom_38 : decode cX4_copyFrom 38 = .ok (.getfield 21, 3) := by decide +kernel
theorem dX4_copyFrom_41 : decode cX4_copyFrom 41 = .ok (.invokestatic 58, 3) := by decide +kernel
theorem dX4_copyFrom_44 : decode cX4_copyFrom 44 = .ok (.aload_n 0, 1) := by decide +kernel
