theorem dX5_count_57 : decode cX5_count 57 = .ok (.getfield 33, 3) := by decide +kernel
theorem dX5_count_60 : decode cX5_count 60 = .ok (.getfield 204, 3) := by decide +kernel
theorem dX5_count_63 : decode cX5_count 63 = .ok (.ireturn, 1) := by decide +kernel
theorem dX5_count_64 : decode cX5_count 64 = .ok (.aload_n 0, 1) := by decide +kernel
theorem dX5_count_65 : decode cX5_count 65 = .ok (.bipush (-2), 2) := by decide +kernel
theorem dX5_count_67 : decode cX5_count 67 = .ok (.invokevirtual 48, 3) := by decide +kernel
theorem dX5_count_70 : decode cX5_count 70 = .ok (.ireturn, 1) := by decide +kernel
set_option maxRecDepth 20000 in
theorem ggX5_digest_X4_groups : GoodIn wsX5_digest wsX4_groups := goodIn_r _ [10, 11, 12, 13, 14, 9, 15, 16, 47, 48, 49, 50, 51, 52, 53, 54, 55, 56, 57, 58, 59, 60] (by decide +kernel) (by decide +kernel)
set_option maxRecDepth 20000 in
theorem gX5_digest_X4_groups : GoodIn wsX5_digest (wsV RX5 91 RX4 yX4_groups wsX4_groups) := goodIn_app (goodIn_of _ (by decide +kernel)) ggX5_digest_X4_groups
set_option maxRecDepth 20000 in
theorem ggX5_digest_X4_foldInto : GoodIn wsX5_digest wsX4_foldInto := goodIn_r _ [20, 16, 21, 22, 23, 24, 25, 26, 27, 28, 11, 29, 30, 31, 32, 33, 34, 35, 9, 36, 37, 47, 48, 49, 50, 51, 52, 53, 54, 55, 56, 57, 58, 59, 60] (by decide +kernel) (by decide +kernel)
set_option maxRecDepth 20000 in
theorem gX5_digest_X4_foldInto : GoodIn wsX5_digest (wsV RX5 211 RX4 yX4_foldInto wsX4_foldInto) := goodIn_app (goodIn_of _ (by decide +kernel)) ggX5_digest_X4_foldInto
theorem dX5_digest_0 : decode cX5_digest 0 = .ok (.ldc2_w 207, 3) := by decide +kernel
theorem dX5_digest_3 : decode cX5_digest 3 = .ok (.lstore_n 1, 1) := by decide +kernel
theorem dX5_digest_4 : decode cX5_digest 4 = .ok (.ldc2_w 209, 3) := by decide +kernel
theorem dX5_digest_7 : decode cX5_digest 7 = .ok (.lload_n 1, 1) := by decide +kernel
theorem dX5_digest_8 : decode cX5_digest 8 = .ok (.lmul, 1) := by decide +kernel
theorem dX5_digest_9 : decode cX5_digest 9 = .ok (.aload_n 0, 1) := by decide +kernel
theorem dX5_digest_10 : decode cX5_digest 10 = .ok (.getfield 12, 3) := by decide +kernel
theorem dX5_digest_13 : decode cX5_digest 13 = .ok (.getfield 198, 3) := by decide +kernel
theorem dX5_digest_16 : decode cX5_digest 16 = .ok (.i2l, 1) := by decide +kernel
theorem dX5_digest_17 : decode cX5_digest 17 = .ok (.ladd, 1) := by decide +kernel
theorem dX5_digest_18 : decode cX5_digest 18 = .ok (.lstore_n 1, 1) := by decide +kernel
theorem dX5_digest_19 : decode cX5_digest 19 = .ok (.ldc2_w 209, 3) := by decide +kernel
theorem dX5_digest_22 : decode cX5_digest 22 = .ok (.lload_n 1, 1) := by decide +kernel
theorem dX5_digest_23 : decode cX5_digest 23 = .ok (.lmul, 1) := by decide +kernel
theorem dX5_digest_24 : decode cX5_digest 24 = .ok (.aload_n 0, 1) := by decide +kernel
theorem dX5_digest_25 : decode cX5_digest 25 = .ok (.getfield 12, 3) := by decide +kernel
theorem dX5_digest_28 : decode cX5_digest 28 = .ok (.getfield 201, 3) := by decide +kernel
theorem dX5_digest_31 : decode cX5_digest 31 = .ok (.i2l, 1) := by decide +kernel
theorem dX5_digest_32 : decode cX5_digest 32 = .ok (.ladd, 1) := by decide +kernel
theorem dX5_digest_33 : decode cX5_digest 33 = .ok (.lstore_n 1, 1) := by decide +kernel
theorem dX5_digest_34 : decode cX5_digest 34 = .ok (.ldc2_w 209, 3) := by decide +kernel
theorem dX5_digest_37 : decode cX5_digest 37 = .ok (.lload_n 1, 1) := by decide +kernel
theorem dX5_digest_38 : decode cX5_digest 38 = .ok (.lmul, 1) := by decide +kernel
theorem dX5_digest_39 : decode cX5_digest 39 = .ok (.aload_n 0, 1) := by decide +kernel
theorem dX5_digest_40 : decode cX5_digest 40 = .ok (.getfield 12, 3) := by decide +kernel
theorem dX5_digest_43 : decode cX5_digest 43 = .ok (.invokevirtual 91, 3) := by decide +kernel
theorem dX5_digest_46 : decode cX5_digest 46 = .ok (.i2l, 1) := by decide +kernel
theorem dX5_digest_47 : decode cX5_digest 47 = .ok (.ladd, 1) := by decide +kernel
theorem dX5_digest_48 : decode cX5_digest 48 = .ok (.lstore_n 1, 1) := by decide +kernel
theorem dX5_digest_49 : decode cX5_digest 49 = .ok (.ldc2_w 209, 3) := by decide +kernel
theorem dX5_digest_52 : decode cX5_digest 52 = .ok (.lload_n 1, 1) := by decide +kernel
theorem dX5_digest_53 : decode cX5_digest 53 = .ok (.lmul, 1) := by decide +kernel
theorem dX5_digest_54 : decode cX5_digest 54 = .ok (.aload_n 0, 1) := by decide +kernel
theorem dX5_digest_55 : decode cX5_digest 55 = .ok (.getfield 33, 3) := by decide +kernel
theorem dX5_digest_58 : decode cX5_digest 58 = .ok (.getfield 204, 3) := by decide +kernel
theorem dX5_digest_61 : decode cX5_digest 61 = .ok (.i2l, 1) := by decide +kernel
theorem dX5_digest_62 : decode cX5_digest 62 = .ok (.ladd, 1) := by decide +kernel
theorem dX5_digest_63 : decode cX5_digest 63 = .ok (.lstore_n 1, 1) := by decide +kernel
theorem dX5_digest_64 : decode cX5_digest 64 = .ok (.aload_n 0, 1) := by decide +kernel
theorem dX5_digest_65 : decode cX5_digest 65 = .ok (.getfield 12, 3) := by decide +kernel
theorem dX5_digest_68 : decode cX5_digest 68 = .ok (.lload_n 1, 1) := by decide +kernel
theorem dX5_digest_69 : decode cX5_digest 69 = .ok (.invokevirtual 211, 3) := by decide +kernel
theorem dX5_digest_72 : decode cX5_digest 72 = .ok (.lstore_n 1, 1) := by decide +kernel
theorem dX5_digest_73 : decode cX5_digest 73 = .ok (.ldc2_w 209, 3) := by decide +kernel
theorem dX5_digest_76 : decode cX5_digest 76 = .ok (.lload_n 1, 1) := by decide +kernel
theorem dX5_digest_77 : decode cX5_digest 77 = .ok (.lmul, 1) := by decide +kernel
theorem dX5_digest_78 : decode cX5_digest 78 = .ok (.aload_n 0, 1) := by decide +kernel
theorem dX5_digest_79 : decode cX5_digest 79 = .ok (.getfield 40, 3) := by decide +kernel
theorem dX5_digest_82 : decode cX5_digest 82 = .ok (.getfield 182, 3) := by decide +kernel
theorem dX5_digest_85 : decode cX5_digest 85 = .ok (.ladd, 1) := by decide +kernel
theorem dX5_digest_86 : decode cX5_digest 86 = .ok (.lstore_n 1, 1) := by decide +kernel
theorem dX5_digest_87 : decode cX5_digest 87 = .ok (.ldc2_w 209, 3) := by decide +kernel
theorem dX5_digest_90 : decode cX5_digest 90 = .ok (.lload_n 1, 1) := by decide +kernel
theorem dX5_digest_91 : decode cX5_digest 91 = .ok (.lmul, 1) := by decide +kernel
theorem dX5_digest_92 : decode cX5_digest 92 = .ok (.aload_n 0, 1) := by decide +kernel
theorem dX5_digest_93 : decode cX5_digest 93 = .ok (.getfield 40, 3) := by decide +kernel
theorem dX5_digest_96 : decode cX5_digest 96 = .ok (.getfield 186, 3) := by decide +kernel
theorem dX5_digest_99 : decode cX5_digest 99 = .ok (.ladd, 1) := by decide +kernel
theorem dX5_digest_100 : decode cX5_digest 100 = .ok (.lreturn, 1) := by decide +kernel
theorem dX5_noted_0 : decode cX5_noted 0 = .ok (.iload_n 1, 1) := by decide +kernel
theorem dX5_noted_1 : decode cX5_noted 1 = .ok (.bipush (-2), 2) := by decide +kernel
theorem dX5_noted_3 : decode cX5_noted 3 = .ok (.if_icmp .eq 9, 3) := by decide +kernel
theorem dX5_noted_6 : decode cX5_noted 6 = .ok (.iload_n 1, 1) := by decide +kernel
theorem dX5_noted_7 : decode cX5_noted 7 = .ok (.bipush (-10), 2) := by decide +kernel
theorem dX5_noted_9 : decode cX5_noted 9 = .ok (.if_icmp .ne 16, 3) := by decide +kernel
theorem dX5_noted_12 : decode cX5_noted 12 = .ok (.aload_n 0, 1) := by decide +kernel
theorem dX5_noted_13 : decode cX5_noted 13 = .ok (.dup, 1) := by decide +kernel
theorem dX5_noted_14 : decode cX5_noted 14 = .ok (.getfield 189, 3) := by decide +kernel
theorem dX5_noted_17 : decode cX5_noted 17 = .ok (.iconst 1, 1) := by decide +kernel
theorem dX5_noted_18 : decode cX5_noted 18 = .ok (.iadd, 1) := by decide +kernel
theorem dX5_noted_19 : decode cX5_noted 19 = .ok (.putfield 189, 3) := by decide +kernel
theorem dX5_noted_22 : decode cX5_noted 22 = .ok (.goto 44, 3) := by decide +kernel
theorem dX5_noted_25 : decode cX5_noted 25 = .ok (.iload_n 1, 1) := by decide +kernel
theorem dX5_noted_26 : decode cX5_noted 26 = .ok (.bipush (-3), 2) := by decide +kernel
theorem dX5_noted_28 : decode cX5_noted 28 = .ok (.if_icmp .eq 9, 3) := by decide +kernel
theorem dX5_noted_31 : decode cX5_noted 31 = .ok (.iload_n 1, 1) := by decide +kernel
theorem dX5_noted_32 : decode cX5_noted 32 = .ok (.bipush (-20), 2) := by decide +kernel
theorem dX5_noted_34 : decode cX5_noted 34 = .ok (.if_icmp .ne 16, 3) := by decide +kernel
theorem dX5_noted_37 : decode cX5_noted 37 = .ok (.aload_n 0, 1) := by decide +kernel
theorem dX5_noted_38 : decode cX5_noted 38 = .ok (.dup, 1) := by decide +kernel
theorem dX5_noted_39 : decode cX5_noted 39 = .ok (.getfield 192, 3) := by decide +kernel
theorem dX5_noted_42 : decode cX5_noted 42 = .ok (.iconst 1, 1) := by decide +kernel
theorem dX5_noted_43 : decode cX5_noted 43 = .ok (.iadd, 1) := by decide +kernel
theorem dX5_noted_44 : decode cX5_noted 44 = .ok (.putfield 192, 3) := by decide +kernel
theorem dX5_noted_47 : decode cX5_noted 47 = .ok (.goto 19, 3) := by decide +kernel
theorem dX5_noted_50 : decode cX5_noted 50 = .ok (.iload_n 1, 1) := by decide +kernel
theorem dX5_noted_51 : decode cX5_noted 51 = .ok (.bipush (-4), 2) := by decide +kernel
theorem dX5_noted_53 : decode cX5_noted 53 = .ok (.if_icmp .ne 13, 3) := by decide +kernel
theorem dX5_noted_56 : decode cX5_noted 56 = .ok (.aload_n 0, 1) := by decide +kernel
theorem dX5_noted_57 : decode cX5_noted 57 = .ok (.dup, 1) := by decide +kernel
theorem dX5_noted_58 : decode cX5_noted 58 = .ok (.getfield 195, 3) := by decide +kernel
theorem dX5_noted_61 : decode cX5_noted 61 = .ok (.iconst 1, 1) := by decide +kernel
theorem dX5_noted_62 : decode cX5_noted 62 = .ok (.iadd, 1) := by decide +kernel
theorem dX5_noted_63 : decode cX5_noted 63 = .ok (.putfield 195, 3) := by decide +kernel
theorem dX5_noted_66 : decode cX5_noted 66 = .ok (.iload_n 1, 1) := by decide +kernel
theorem dX5_noted_67 : decode cX5_noted 67 = .ok (.ireturn, 1) := by decide +kernel
theorem dX6_in_0 : decode cX6_in 0 = .ok (.lload_n 0, 1) := by decide +kernel
theorem dX6_in_1 : decode cX6_in 1 = .ok (.lload_n 2, 1) := by decide +kernel
theorem dX6_in_2 : decode cX6_in 2 = .ok (.lcmp, 1) := by decide +kernel
theorem dX6_in_3 : decode cX6_in 3 = .ok (.ifCond .lt 14, 3) := by decide +kernel
theorem dX6_in_6 : decode cX6_in 6 = .ok (.lload_n 0, 1) := by decide +kernel
theorem dX6_in_7 : decode cX6_in 7 = .ok (.lload 4, 2) := by decide +kernel
theorem dX6_in_9 : decode cX6_in 9 = .ok (.lcmp, 1) := by decide +kernel
theorem dX6_in_10 : decode cX6_in 10 = .ok (.ifCond .gt 7, 3) := by decide +kernel
theorem dX6_in_13 : decode cX6_in 13 = .ok (.iconst 1, 1) := by decide +kernel
theorem dX6_in_14 : decode cX6_in 14 = .ok (.goto 4, 3) := by decide +kernel
theorem dX6_in_17 : decode cX6_in 17 = .ok (.iconst 0, 1) := by decide +kernel
theorem dX6_in_18 : decode cX6_in 18 = .ok (.ireturn, 1) := by decide +kernel
set_option maxRecDepth 20000 in
theorem ggX6_init_X6_begins : GoodIn wsX6_init wsX6_begins := goodIn_r _ [20, 5, 21, 22, 23, 19, 24, 25, 26, 27, 28, 29, 30, 31, 32, 33, 34, 35, 36, 37, 38, 39, 40, 41, 42, 43, 44] (by decide +kernel) (by decide +kernel)
set_option maxRecDepth 20000 in
theorem gX6_init_X6_begins : GoodIn wsX6_init (wsV RX6 38 RX6 yX6_begins wsX6_begins) := goodIn_app (goodIn_of _ (by decide +kernel)) ggX6_init_X6_begins
theorem dX6_init_0 : decode cX6_init 0 = .ok (.aload_n 0, 1) := by decide +kernel
theorem dX6_init_1 : decode cX6_init 1 = .ok (.invokespecial 1, 3) := by decide +kernel
theorem dX6_init_4 : decode cX6_init 4 = .ok (.aload_n 0, 1) := by decide +kernel
theorem dX6_init_5 : decode cX6_init 5 = .ok (.bipush 80, 2) := by decide +kernel
theorem dX6_init_7 : decode cX6_init 7 = .ok (.newarray .int, 2) := by decide +kernel
theorem dX6_init_9 : decode cX6_init 9 = .ok (.putfield 7, 3) := by decide +kernel
theorem dX6_init_12 : decode cX6_init 12 = .ok (.aload_n 0, 1) := by decide +kernel
theorem dX6_init_13 : decode cX6_init 13 = .ok (.sipush 160, 3) := by decide +kernel
theorem dX6_init_16 : decode cX6_init 16 = .ok (.newarray .int, 2) := by decide +kernel
theorem dX6_init_18 : decode cX6_init 18 = .ok (.putfield 13, 3) := by decide +kernel
theorem dX6_init_21 : decode cX6_init 21 = .ok (.aload_n 0, 1) := by decide +kernel
theorem dX6_init_22 : decode cX6_init 22 = .ok (.iconst 2, 1) := by decide +kernel
theorem dX6_init_23 : decode cX6_init 23 = .ok (.newarray .boolean, 2) := by decide +kernel
theorem dX6_init_25 : decode cX6_init 25 = .ok (.putfield 16, 3) := by decide +kernel
theorem dX6_init_28 : decode cX6_init 28 = .ok (.aload_n 0, 1) := by decide +kernel
theorem dX6_init_29 : decode cX6_init 29 = .ok (.bipush 80, 2) := by decide +kernel
theorem dX6_init_31 : decode cX6_init 31 = .ok (.newarray .int, 2) := by decide +kernel
theorem dX6_init_33 : decode cX6_init 33 = .ok (.putfield 20, 3) := by decide +kernel
theorem dX6_init_36 : decode cX6_init 36 = .ok (.aload_n 0, 1) := by decide +kernel
theorem dX6_init_37 : decode cX6_init 37 = .ok (.iconst 3, 1) := by decide +kernel
theorem dX6_init_38 : decode cX6_init 38 = .ok (.newarray .int, 2) := by decide +kernel
theorem dX6_init_40 : decode cX6_init 40 = .ok (.putfield 23, 3) := by decide +kernel
theorem dX6_init_43 : decode cX6_init 43 = .ok (.aload_n 0, 1) := by decide +kernel
theorem dX6_init_44 : decode cX6_init 44 = .ok (.sipush 200, 3) := by decide +kernel
theorem dX6_init_47 : decode cX6_init 47 = .ok (.newarray .int, 2) := by decide +kernel
theorem dX6_init_49 : decode cX6_init 49 = .ok (.putfield 26, 3) := by decide +kernel
theorem dX6_init_52 : decode cX6_init 52 = .ok (.aload_n 0, 1) := by decide +kernel
theorem dX6_init_53 : decode cX6_init 53 = .ok (.sipush 200, 3) := by decide +kernel
theorem dX6_init_56 : decode cX6_init 56 = .ok (.newarray .int, 2) := by decide +kernel
theorem dX6_init_58 : decode cX6_init 58 = .ok (.putfield 29, 3) := by decide +kernel
theorem dX6_init_61 : decode cX6_init 61 = .ok (.aload_n 0, 1) := by decide +kernel
theorem dX6_init_62 : decode cX6_init 62 = .ok (.bipush 6, 2) := by decide +kernel
theorem dX6_init_64 : decode cX6_init 64 = .ok (.newarray .int, 2) := by decide +kernel
theorem dX6_init_66 : decode cX6_init 66 = .ok (.putfield 32, 3) := by decide +kernel
theorem dX6_init_69 : decode cX6_init 69 = .ok (.aload_n 0, 1) := by decide +kernel
theorem dX6_init_70 : decode cX6_init 70 = .ok (.bipush 6, 2) := by decide +kernel
theorem dX6_init_72 : decode cX6_init 72 = .ok (.newarray .int, 2) := by decide +kernel
theorem dX6_init_74 : decode cX6_init 74 = .ok (.putfield 35, 3) := by decide +kernel
theorem dX6_init_77 : decode cX6_init 77 = .ok (.aload_n 0, 1) := by decide +kernel
theorem dX6_init_78 : decode cX6_init 78 = .ok (.invokevirtual 38, 3) := by decide +kernel
theorem dX6_init_81 : decode cX6_init 81 = .ok (.aload_n 0, 1) := by decide +kernel
theorem dX6_init_82 : decode cX6_init 82 = .ok (.lconst 1, 1) := by decide +kernel
theorem dX6_init_83 : decode cX6_init 83 = .ok (.putfield 41, 3) := by decide +kernel
theorem dX6_init_86 : decode cX6_init 86 = .ok (.return_, 1) := by decide +kernel
set_option maxRecDepth 20000 in
theorem ggX6_begins_X6_anew : GoodIn wsX6_begins wsX6_anew := goodIn_r _ [6, 1, 7, 8, 9, 10, 11, 12, 13, 14, 15, 16, 17, 18, 19, 20, 21, 22, 23, 24, 25, 26] (by decide +kernel) (by decide +kernel)
set_option maxRecDepth 20000 in
theorem gX6_begins_X6_anew : GoodIn wsX6_begins (wsV RX6 45 RX6 yX6_anew wsX6_anew) := goodIn_app (goodIn_of _ (by decide +kernel)) ggX6_begins_X6_anew
theorem dX6_begins_0 : decode cX6_begins 0 = .ok (.iconst 0, 1) := by decide +kernel
theorem dX6_begins_1 : decode cX6_begins 1 = .ok (.istore_n 1, 1) := by decide +kernel
theorem dX6_begins_2 : decode cX6_begins 2 = .ok (.iload_n 1, 1) := by decide +kernel
theorem dX6_begins_3 : decode cX6_begins 3 = .ok (.bipush 80, 2) := by decide +kernel
theorem dX6_begins_5 : decode cX6_begins 5 = .ok (.if_icmp .ge 16, 3) := by decide +kernel
theorem dX6_begins_8 : decode cX6_begins 8 = .ok (.aload_n 0, 1) := by decide +kernel
theorem dX6_begins_9 : decode cX6_begins 9 = .ok (.getfield 7, 3) := by decide +kernel
theorem dX6_begins_12 : decode cX6_begins 12 = .ok (.iload_n 1, 1) := by decide +kernel
theorem dX6_begins_13 : decode cX6_begins 13 = .ok (.iconst 0, 1) := by decide +kernel
theorem dX6_begins_14 : decode cX6_begins 14 = .ok (.iastore, 1) := by decide +kernel
theorem dX6_begins_15 : decode cX6_begins 15 = .ok (.iinc 1 1, 3) := by decide +kernel
theorem dX6_begins_18 : decode cX6_begins 18 = .ok (.goto (-16), 3) := by decide +kernel
theorem dX6_begins_21 : decode cX6_begins 21 = .ok (.aload_n 0, 1) := by decide +kernel
theorem dX6_begins_22 : decode cX6_begins 22 = .ok (.getfield 7, 3) := by decide +kernel
theorem dX6_begins_25 : decode cX6_begins 25 = .ok (.iconst 4, 1) := by decide +kernel
theorem dX6_begins_26 : decode cX6_begins 26 = .ok (.iconst 3, 1) := by decide +kernel
theorem dX6_begins_27 : decode cX6_begins 27 = .ok (.iastore, 1) := by decide +kernel
theorem dX6_begins_28 : decode cX6_begins 28 = .ok (.aload_n 0, 1) := by decide +kernel
theorem dX6_begins_29 : decode cX6_begins 29 = .ok (.getfield 7, 3) := by decide +kernel
theorem dX6_begins_32 : decode cX6_begins 32 = .ok (.iconst 5, 1) := by decide +kernel
theorem dX6_begins_33 : decode cX6_begins 33 = .ok (.bipush 10, 2) := by decide +kernel
theorem dX6_begins_35 : decode cX6_begins 35 = .ok (.iastore, 1) := by decide +kernel
theorem dX6_begins_36 : decode cX6_begins 36 = .ok (.aload_n 0, 1) := by decide +kernel
theorem dX6_begins_37 : decode cX6_begins 37 = .ok (.getfield 7, 3) := by decide +kernel
theorem dX6_begins_40 : decode cX6_begins 40 = .ok (.bipush 6, 2) := by decide +kernel
theorem dX6_begins_42 : decode cX6_begins 42 = .ok (.iconst 5, 1) := by decide +kernel
theorem dX6_begins_43 : decode cX6_begins 43 = .ok (.iastore, 1) := by decide +kernel
theorem dX6_begins_44 : decode cX6_begins 44 = .ok (.iconst 0, 1) := by decide +kernel
theorem dX6_begins_45 : decode cX6_begins 45 = .ok (.istore_n 1, 1) := by decide +kernel
theorem dX6_begins_46 : decode cX6_begins 46 = .ok (.iload_n 1, 1) := by decide +kernel
theorem dX6_begins_47 : decode cX6_begins 47 = .ok (.iconst 4, 1) := by decide +kernel
theorem dX6_begins_48 : decode cX6_begins 48 = .ok (.if_icmp .ge 19, 3) := by decide +kernel
theorem dX6_begins_51 : decode cX6_begins 51 = .ok (.aload_n 0, 1) := by decide +kernel
theorem dX6_begins_52 : decode cX6_begins 52 = .ok (.getfield 7, 3) := by decide +kernel
theorem dX6_begins_55 : decode cX6_begins 55 = .ok (.bipush 60, 2) := by decide +kernel
theorem dX6_begins_57 : decode cX6_begins 57 = .ok (.iload_n 1, 1) := by decide +kernel
theorem dX6_begins_58 : decode cX6_begins 58 = .ok (.iadd, 1) := by decide +kernel
theorem dX6_begins_59 : decode cX6_begins 59 = .ok (.iconst 5, 1) := by decide +kernel
theorem dX6_begins_60 : decode cX6_begins 60 = .ok (.iastore, 1) := by decide +kernel
theorem dX6_begins_61 : decode cX6_begins 61 = .ok (.iinc 1 1, 3) := by decide +kernel
theorem dX6_begins_64 : decode cX6_begins 64 = .ok (.goto (-18), 3) := by decide +kernel
theorem dX6_begins_67 : decode cX6_begins 67 = .ok (.aload_n 0, 1) := by decide +kernel
theorem dX6_begins_68 : decode cX6_begins 68 = .ok (.invokevirtual 45, 3) := by decide +kernel
theorem dX6_begins_71 : decode cX6_begins 71 = .ok (.return_, 1) := by decide +kernel
theorem dX6_anew_0 : decode cX6_anew 0 = .ok (.aload_n 0, 1) := by decide +kernel
theorem dX6_anew_1 : decode cX6_anew 1 = .ok (.getfield 7, 3) := by decide +kernel
theorem dX6_anew_4 : decode cX6_anew 4 = .ok (.bipush 7, 2) := by decide +kernel
theorem dX6_anew_6 : decode cX6_anew 6 = .ok (.iconst 0, 1) := by decide +kernel
theorem dX6_anew_7 : decode cX6_anew 7 = .ok (.iastore, 1) := by decide +kernel
theorem dX6_anew_8 : decode cX6_anew 8 = .ok (.aload_n 0, 1) := by decide +kernel
theorem dX6_anew_9 : decode cX6_anew 9 = .ok (.getfield 7, 3) := by decide +kernel
theorem dX6_anew_12 : decode cX6_anew 12 = .ok (.bipush 70, 2) := by decide +kernel
theorem dX6_anew_14 : decode cX6_anew 14 = .ok (.aload_n 0, 1) := by decide +kernel
theorem dX6_anew_15 : decode cX6_anew 15 = .ok (.getfield 7, 3) := by decide +kernel
theorem dX6_anew_18 : decode cX6_anew 18 = .ok (.bipush 6, 2) := by decide +kernel
theorem dX6_anew_20 : decode cX6_anew 20 = .ok (.iaload, 1) := by decide +kernel
theorem dX6_anew_21 : decode cX6_anew 21 = .ok (.iastore, 1) := by decide +kernel
theorem dX6_anew_22 : decode cX6_anew 22 = .ok (.return_, 1) := by decide +kernel
theorem dX6_refuses_0 : decode cX6_refuses 0 = .ok (.aload_n 0, 1) := by decide +kernel
theorem dX6_refuses_1 : decode cX6_refuses 1 = .ok (.getfield 23, 3) := by decide +kernel
theorem dX6_refuses_4 : decode cX6_refuses 4 = .ok (.iload_n 1, 1) := by decide +kernel
theorem dX6_refuses_5 : decode cX6_refuses 5 = .ok (.dup2, 1) := by decide +kernel
theorem dX6_refuses_6 : decode cX6_refuses 6 = .ok (.iaload, 1) := by decide +kernel
theorem dX6_refuses_7 : decode cX6_refuses 7 = .ok (.aload_n 0, 1) := by decide +kernel
theorem dX6_refuses_8 : decode cX6_refuses 8 = .ok (.getfield 48, 3) := by decide +kernel
theorem dX6_refuses_11 : decode cX6_refuses 11 = .ok (.ifCond .eq 7, 3) := by decide +kernel
theorem dX6_refuses_14 : decode cX6_refuses 14 = .ok (.iconst 0, 1) := by decide +kernel
theorem dX6_refuses_15 : decode cX6_refuses 15 = .ok (.goto 4, 3) := by decide +kernel
theorem dX6_refuses_18 : decode cX6_refuses 18 = .ok (.iconst 1, 1) := by decide +kernel
theorem dX6_refuses_19 : decode cX6_refuses 19 = .ok (.iadd, 1) := by decide +kernel
theorem dX6_refuses_20 : decode cX6_refuses 20 = .ok (.iastore, 1) := by decide +kernel
theorem dX6_refuses_21 : decode cX6_refuses 21 = .ok (.iload_n 2, 1) := by decide +kernel
theorem dX6_refuses_22 : decode cX6_refuses 22 = .ok (.ireturn, 1) := by decide +kernel
set_option maxRecDepth 20000 in
theorem ggX6_bad_X6_refuses : GoodIn wsX6_bad wsX6_refuses := goodIn_r _ [5, 6, 7, 8, 9, 10, 11, 12, 13, 14, 15, 16, 17, 18, 19, 20, 21, 22, 23, 24, 25, 26, 27] (by decide +kernel) (by decide +kernel)
set_option maxRecDepth 20000 in
theorem gX6_bad_X6_refuses : GoodIn wsX6_bad (wsV RX6 52 RX6 yX6_refuses wsX6_refuses) := goodIn_app (goodIn_of _ (by decide +kernel)) ggX6_bad_X6_refuses
theorem dX6_bad_0 : decode cX6_bad 0 = .ok (.aload_n 0, 1) := by decide +kernel
theorem dX6_bad_1 : decode cX6_bad 1 = .ok (.iconst 0, 1) := by decide +kernel
theorem dX6_bad_2 : decode cX6_bad 2 = .ok (.bipush (-2), 2) := by decide +kernel
theorem dX6_bad_4 : decode cX6_bad 4 = .ok (.invokevirtual 52, 3) := by decide +kernel
theorem dX6_bad_7 : decode cX6_bad 7 = .ok (.ireturn, 1) := by decide +kernel
set_option maxRecDepth 20000 in
theorem ggX6_no_X6_refuses : GoodIn wsX6_no wsX6_refuses := goodIn_r _ [5, 6, 7, 8, 9, 10, 11, 12, 13, 14, 15, 16, 17, 18, 19, 20, 21, 22, 23, 24, 25, 26, 27] (by decide +kernel) (by decide +kernel)
set_option maxRecDepth 20000 in
theorem gX6_no_X6_refuses : GoodIn wsX6_no (wsV RX6 52 RX6 yX6_refuses wsX6_refuses) := goodIn_app (goodIn_of _ (by decide +kernel)) ggX6_no_X6_refuses
theorem dX6_no_0 : decode cX6_no 0 = .ok (.aload_n 0, 1) := by decide +kernel
theorem dX6_no_1 : decode cX6_no 1 = .ok (.iconst 1, 1) := by decide +kernel
theorem dX6_no_2 : decode cX6_no 2 = .ok (.bipush (-3), 2) := by decide +kernel
theorem dX6_no_4 : decode cX6_no 4 = .ok (.invokevirtual 52, 3) := by decide +kernel
theorem dX6_no_7 : decode cX6_no 7 = .ok (.ireturn, 1) := by decide +kernel
set_option maxRecDepth 20000 in
theorem ggX6_full_X6_refuses : GoodIn wsX6_full wsX6_refuses := goodIn_r _ [5, 6, 7, 8, 9, 10, 11, 12, 13, 14, 15, 16, 17, 18, 19, 20, 21, 22, 23, 24, 25, 26, 27] (by decide +kernel) (by decide +kernel)
set_option maxRecDepth 20000 in
theorem gX6_full_X6_refuses : GoodIn wsX6_full (wsV RX6 52 RX6 yX6_refuses wsX6_refuses) := goodIn_app (goodIn_of _ (by decide +kernel)) ggX6_full_X6_refuses
theorem dX6_full_0 : decode cX6_full 0 = .ok (.aload_n 0, 1) := by decide +kernel
theorem dX6_full_1 : decode cX6_full 1 = .ok (.iconst 2, 1) := by decide +kernel
theorem dX6_full_2 : decode cX6_full 2 = .ok (.bipush (-4), 2) := by decide +kernel
theorem dX6_full_4 : decode cX6_full 4 = .ok (.invokevirtual 52, 3) := by decide +kernel
theorem dX6_full_7 : decode cX6_full 7 = .ok (.ireturn, 1) := by decide +kernel
set_option maxRecDepth 20000 in
theorem ggX6_isBolt_X6_in : GoodIn wsX6_isBolt wsX6_in := goodIn_r _ [5] (by decide +kernel) (by decide +kernel)
set_option maxRecDepth 20000 in
theorem gX6_isBolt_X6_in : GoodIn wsX6_isBolt (va_wsS RX6 56 yX6_in wsX6_in) := goodIn_app (goodIn_of _ (by decide +kernel)) ggX6_isBolt_X6_in
theorem dX6_isBolt_0 : decode cX6_isBolt 0 = .ok (.iload_n 1, 1) := by decide +kernel
theorem dX6_isBolt_1 : decode cX6_isBolt 1 = .ok (.i2l, 1) := by decide +kernel
theorem dX6_isBolt_2 : decode cX6_isBolt 2 = .ok (.lconst 0, 1) := by decide +kernel
theorem dX6_isBolt_3 : decode cX6_isBolt 3 = .ok (.aload_n 0, 1) := by decide +kernel
theorem dX6_isBolt_4 : decode cX6_isBolt 4 = .ok (.getfield 7, 3) := by decide +kernel
theorem dX6_isBolt_7 : decode cX6_isBolt 7 = .ok (.iconst 0, 1) := by decide +kernel
theorem dX6_isBolt_8 : decode cX6_isBolt 8 = .ok (.iaload, 1) := by decide +kernel
theorem dX6_isBolt_9 : decode cX6_isBolt 9 = .ok (.iconst 1, 1) := by decide +kernel
theorem dX6_isBolt_10 : decode cX6_isBolt 10 = .ok (.isub, 1) := by decide +kernel
theorem dX6_isBolt_11 : decode cX6_isBolt 11 = .ok (.i2l, 1) := by decide +kernel
theorem dX6_isBolt_12 : decode cX6_isBolt 12 = .ok (.invokestatic 56, 3) := by decide +kernel
theorem dX6_isBolt_15 : decode cX6_isBolt 15 = .ok (.ireturn, 1) := by decide +kernel
set_option maxRecDepth 20000 in
theorem ggX6_isMoth_X6_in : GoodIn wsX6_isMoth wsX6_in := goodIn_r _ [5] (by decide +kernel) (by decide +kernel)
set_option maxRecDepth 20000 in
theorem gX6_isMoth_X6_in : GoodIn wsX6_isMoth (va_wsS RX6 56 yX6_in wsX6_in) := goodIn_app (goodIn_of _ (by decide +kernel)) ggX6_isMoth_X6_in
theorem dX6_isMoth_0 : decode cX6_isMoth 0 = .ok (.iload_n 1, 1) := by decide +kernel
theorem dX6_isMoth_1 : decode cX6_isMoth 1 = .ok (.i2l, 1) := by decide +kernel
theorem dX6_isMoth_2 : decode cX6_isMoth 2 = .ok (.lconst 0, 1) := by decide +kernel
theorem dX6_isMoth_3 : decode cX6_isMoth 3 = .ok (.aload_n 0, 1) := by decide +kernel
theorem dX6_isMoth_4 : decode cX6_isMoth 4 = .ok (.getfield 7, 3) := by decide +kernel
theorem dX6_isMoth_7 : decode cX6_isMoth 7 = .ok (.iconst 1, 1) := by decide +kernel
theorem dX6_isMoth_8 : decode cX6_isMoth 8 = .ok (.iaload, 1) := by decide +kernel
theorem dX6_isMoth_9 : decode cX6_isMoth 9 = .ok (.iconst 1, 1) := by decide +kernel
theorem dX6_isMoth_10 : decode cX6_isMoth 10 = .ok (.isub, 1) := by decide +kernel
theorem dX6_isMoth_11 : decode cX6_isMoth 11 = .ok (.i2l, 1) := by decide +kernel
theorem dX6_isMoth_12 : decode cX6_isMoth 12 = .ok (.invokestatic 56, 3) := by decide +kernel
theorem dX6_isMoth_15 : decode cX6_isMoth 15 = .ok (.ireturn, 1) := by decide +kernel
theorem dX6_ofBolt_0 : decode cX6_ofBolt 0 = .ok (.aload_n 0, 1) := by decide +kernel
theorem dX6_ofBolt_1 : decode cX6_ofBolt 1 = .ok (.getfield 7, 3) := by decide +kernel
theorem dX6_ofBolt_4 : decode cX6_ofBolt 4 = .ok (.bipush 8, 2) := by decide +kernel
theorem dX6_ofBolt_6 : decode cX6_ofBolt 6 = .ok (.iconst 4, 1) := by decide +kernel
theorem dX6_ofBolt_7 : decode cX6_ofBolt 7 = .ok (.iload_n 1, 1) := by decide +kernel
theorem dX6_ofBolt_8 : decode cX6_ofBolt 8 = .ok (.imul, 1) := by decide +kernel
theorem dX6_ofBolt_9 : decode cX6_ofBolt 9 = .ok (.iadd, 1) := by decide +kernel
theorem dX6_ofBolt_10 : decode cX6_ofBolt 10 = .ok (.iload_n 2, 1) := by decide +kernel
theorem dX6_ofBolt_11 : decode cX6_ofBolt 11 = .ok (.iadd, 1) := by decide +kernel
theorem dX6_ofBolt_12 : decode cX6_ofBolt 12 = .ok (.iaload, 1) := by decide +kernel
theorem dX6_ofBolt_13 : decode cX6_ofBolt 13 = .ok (.ireturn, 1) := by decide +kernel
theorem dX6_divisor_0 : decode cX6_divisor 0 = .ok (.lload_n 0, 1) := by decide +kernel
theorem dX6_divisor_1 : decode cX6_divisor 1 = .ok (.lstore 4, 2) := by decide +kernel
theorem dX6_divisor_3 : decode cX6_divisor 3 = .ok (.lload_n 2, 1) := by decide +kernel
theorem dX6_divisor_4 : decode cX6_divisor 4 = .ok (.lstore 6, 2) := by decide +kernel
theorem dX6_divisor_6 : decode cX6_divisor 6 = .ok (.lload 6, 2) := by decide +kernel
theorem dX6_divisor_8 : decode cX6_divisor 8 = .ok (.lconst 0, 1) := by decide +kernel
theorem dX6_divisor_9 : decode cX6_divisor 9 = .ok (.lcmp, 1) := by decide +kernel
theorem dX6_divisor_10 : decode cX6_divisor 10 = .ok (.ifCond .eq 21, 3) := by decide +kernel
theorem dX6_divisor_13 : decode cX6_divisor 13 = .ok (.lload 4, 2) := by decide +kernel
theorem dX6_divisor_15 : decode cX6_divisor 15 = .ok (.lload 6, 2) := by decide +kernel
theorem dX6_divisor_17 : decode cX6_divisor 17 = .ok (.lrem, 1) := by decide +kernel
theorem dX6_divisor_18 : decode cX6_divisor 18 = .ok (.lstore 8, 2) := by decide +kernel
theorem dX6_divisor_20 : decode cX6_divisor 20 = .ok (.lload 6, 2) := by decide +kernel
theorem dX6_divisor_22 : decode cX6_divisor 22 = .ok (.lstore 4, 2) := by decide +kernel
theorem dX6_divisor_24 : decode cX6_divisor 24 = .ok (.lload 8, 2) := by decide +kernel
theorem dX6_divisor_26 : decode cX6_divisor 26 = .ok (.lstore 6, 2) := by decide +kernel
theorem dX6_divisor_28 : decode cX6_divisor 28 = .ok (.goto (-22), 3) := by decide +kernel
theorem dX6_divisor_31 : decode cX6_divisor 31 = .ok (.lload 4, 2) := by decide +kernel
theorem dX6_divisor_33 : decode cX6_divisor 33 = .ok (.lreturn, 1) := by decide +kernel
set_option maxRecDepth 20000 in
theorem ggX6_keeps_X6_divisor : GoodIn wsX6_keeps wsX6_divisor := goodIn_r _ [6] (by decide +kernel) (by decide +kernel)
set_option maxRecDepth 20000 in
theorem gX6_keeps_X6_divisor : GoodIn wsX6_keeps (va_wsS RX6 60 yX6_divisor wsX6_divisor) := goodIn_app (goodIn_of _ (by decide +kernel)) ggX6_keeps_X6_divisor
theorem dX6_keeps_0 : decode cX6_keeps 0 = .ok (.lload_n 1, 1) := by decide +kernel
theorem dX6_keeps_1 : decode cX6_keeps 1 = .ok (.lload_n 3, 1) := by decide +kernel
theorem dX6_keeps_2 : decode cX6_keeps 2 = .ok (.invokestatic 60, 3) := by decide +kernel
theorem dX6_keeps_5 : decode cX6_keeps 5 = .ok (.lstore 5, 2) := by decide +kernel
theorem dX6_keeps_7 : decode cX6_keeps 7 = .ok (.aload_n 0, 1) := by decide +kernel
theorem dX6_keeps_8 : decode cX6_keeps 8 = .ok (.lload_n 1, 1) := by decide +kernel
theorem dX6_keeps_9 : decode cX6_keeps 9 = .ok (.lload 5, 2) := by decide +kernel
theorem dX6_keeps_11 : decode cX6_keeps 11 = .ok (.ldiv, 1) := by decide +kernel
theorem dX6_keeps_12 : decode cX6_keeps 12 = .ok (.putfield 64, 3) := by decide +kernel
theorem dX6_keeps_15 : decode cX6_keeps 15 = .ok (.aload_n 0, 1) := by decide +kernel
theorem dX6_keeps_16 : decode cX6_keeps 16 = .ok (.lload_n 3, 1) := by decide +kernel
theorem dX6_keeps_17 : decode cX6_keeps 17 = .ok (.lload 5, 2) := by decide +kernel
theorem dX6_keeps_19 : decode cX6_keeps 19 = .ok (.ldiv, 1) := by decide +kernel
theorem dX6_keeps_20 : decode cX6_keeps 20 = .ok (.putfield 41, 3) := by decide +kernel
theorem dX6_keeps_23 : decode cX6_keeps 23 = .ok (.iconst 1, 1) := by decide +kernel
theorem dX6_keeps_24 : decode cX6_keeps 24 = .ok (.ireturn, 1) := by decide +kernel
set_option maxRecDepth 20000 in
theorem ggX6_bolt_X6_in : GoodIn wsX6_bolt wsX6_in := goodIn_r _ [7] (by decide +kernel) (by decide +kernel)
set_option maxRecDepth 20000 in
theorem gX6_bolt_X6_in : GoodIn wsX6_bolt (va_wsS RX6 56 yX6_in wsX6_in) := goodIn_app (goodIn_of _ (by decide +kernel)) ggX6_bolt_X6_in
set_option maxRecDepth 20000 in
theorem ggX6_bolt_X6_bad : GoodIn wsX6_bolt wsX6_bad := goodIn_r _ [11, 12, 13, 14, 6, 15, 16, 17, 26, 27, 28, 29, 30, 31, 32, 33, 34, 35, 36, 37, 38, 39, 40, 41, 42, 43, 44, 45] (by decide +kernel) (by decide +kernel)
set_option maxRecDepth 20000 in
theorem gX6_bolt_X6_bad : GoodIn wsX6_bolt (wsV RX6 71 RX6 yX6_bad wsX6_bad) := goodIn_app (goodIn_of _ (by decide +kernel)) ggX6_bolt_X6_bad
set_option maxRecDepth 20000 in
theorem ggX6_bolt_X6_full : GoodIn wsX6_bolt wsX6_full := goodIn_r _ [21, 12, 13, 14, 6, 15, 16, 17, 26, 27, 28, 29, 30, 31, 32, 33, 34, 35, 36, 37, 38, 39, 40, 41, 42, 43, 44, 45] (by decide +kernel) (by decide +kernel)
set_option maxRecDepth 20000 in
theorem gX6_bolt_X6_full : GoodIn wsX6_bolt (wsV RX6 75 RX6 yX6_full wsX6_full) := goodIn_app (goodIn_of _ (by decide +kernel)) ggX6_bolt_X6_full
set_option maxRecDepth 20000 in
theorem ggX6_bolt_X6_anew : GoodIn wsX6_bolt wsX6_anew := goodIn_r _ [25, 3, 26, 27, 28, 29, 30, 31, 32, 33, 34, 35, 36, 37, 38, 39, 40, 41, 42, 43, 44, 45] (by decide +kernel) (by decide +kernel)
set_option maxRecDepth 20000 in
theorem gX6_bolt_X6_anew : GoodIn wsX6_bolt (wsV RX6 45 RX6 yX6_anew wsX6_anew) := goodIn_app (goodIn_of _ (by decide +kernel)) ggX6_bolt_X6_anew
theorem dX6_bolt_0 : decode cX6_bolt 0 = .ok (.iload_n 1, 1) := by decide +kernel
theorem dX6_bolt_1 : decode cX6_bolt 1 = .ok (.i2l, 1) := by decide +kernel
theorem dX6_bolt_2 : decode cX6_bolt 2 = .ok (.lconst 0, 1) := by decide +kernel
theorem dX6_bolt_3 : decode cX6_bolt 3 = .ok (.ldc2_w 67, 3) := by decide +kernel
theorem dX6_bolt_6 : decode cX6_bolt 6 = .ok (.invokestatic 56, 3) := by decide +kernel
theorem dX6_bolt_9 : decode cX6_bolt 9 = .ok (.ifCond .eq 27, 3) := by decide +kernel
theorem dX6_bolt_12 : decode cX6_bolt 12 = .ok (.iload_n 2, 1) := by decide +kernel
theorem dX6_bolt_13 : decode cX6_bolt 13 = .ok (.i2l, 1) := by decide +kernel
theorem dX6_bolt_14 : decode cX6_bolt 14 = .ok (.lconst 0, 1) := by decide +kernel
theorem dX6_bolt_15 : decode cX6_bolt 15 = .ok (.ldc2_w 67, 3) := by decide +kernel
theorem dX6_bolt_18 : decode cX6_bolt 18 = .ok (.invokestatic 56, 3) := by decide +kernel
theorem dX6_bolt_21 : decode cX6_bolt 21 = .ok (.ifCond .eq 15, 3) := by decide +kernel
theorem dX6_bolt_24 : decode cX6_bolt 24 = .ok (.iload_n 3, 1) := by decide +kernel
theorem dX6_bolt_25 : decode cX6_bolt 25 = .ok (.i2l, 1) := by decide +kernel
theorem dX6_bolt_26 : decode cX6_bolt 26 = .ok (.lconst 0, 1) := by decide +kernel
theorem dX6_bolt_27 : decode cX6_bolt 27 = .ok (.ldc2_w 69, 3) := by decide +kernel
theorem dX6_bolt_30 : decode cX6_bolt 30 = .ok (.invokestatic 56, 3) := by decide +kernel
theorem dX6_bolt_33 : decode cX6_bolt 33 = .ok (.ifCond .ne 8, 3) := by decide +kernel
theorem dX6_bolt_36 : decode cX6_bolt 36 = .ok (.aload_n 0, 1) := by decide +kernel
theorem dX6_bolt_37 : decode cX6_bolt 37 = .ok (.invokevirtual 71, 3) := by decide +kernel
theorem dX6_bolt_40 : decode cX6_bolt 40 = .ok (.ireturn, 1) := by decide +kernel
theorem dX6_bolt_41 : decode cX6_bolt 41 = .ok (.aload_n 0, 1) := by decide +kernel
theorem dX6_bolt_42 : decode cX6_bolt 42 = .ok (.getfield 7, 3) := by decide +kernel
theorem dX6_bolt_45 : decode cX6_bolt 45 = .ok (.iconst 0, 1) := by decide +kernel
theorem dX6_bolt_46 : decode cX6_bolt 46 = .ok (.iaload, 1) := by decide +kernel
theorem dX6_bolt_47 : decode cX6_bolt 47 = .ok (.bipush 12, 2) := by decide +kernel
theorem dX6_bolt_49 : decode cX6_bolt 49 = .ok (.if_icmp .ne 8, 3) := by decide +kernel
theorem dX6_bolt_52 : decode cX6_bolt 52 = .ok (.aload_n 0, 1) := by decide +kernel
theorem dX6_bolt_53 : decode cX6_bolt 53 = .ok (.invokevirtual 75, 3) := by decide +kernel
theorem dX6_bolt_56 : decode cX6_bolt 56 = .ok (.ireturn, 1) := by decide +kernel
theorem dX6_bolt_57 : decode cX6_bolt 57 = .ok (.bipush 8, 2) := by decide +kernel
theorem dX6_bolt_59 : decode cX6_bolt 59 = .ok (.iconst 4, 1) := by decide +kernel
theorem dX6_bolt_60 : decode cX6_bolt 60 = .ok (.aload_n 0, 1) := by decide +kernel
theorem dX6_bolt_61 : decode cX6_bolt 61 = .ok (.getfield 7, 3) := by decide +kernel
theorem dX6_bolt_64 : decode cX6_bolt 64 = .ok (.iconst 0, 1) := by decide +kernel
theorem dX6_bolt_65 : decode cX6_bolt 65 = .ok (.iaload, 1) := by decide +kernel
theorem dX6_bolt_66 : decode cX6_bolt 66 = .ok (.imul, 1) := by decide +kernel
theorem dX6_bolt_67 : decode cX6_bolt 67 = .ok (.iadd, 1) := by decide +kernel
theorem dX6_bolt_68 : decode cX6_bolt 68 = .ok (.istore 4, 2) := by decide +kernel
theorem dX6_bolt_70 : decode cX6_bolt 70 = .ok (.aload_n 0, 1) := by decide +kernel
theorem dX6_bolt_71 : decode cX6_bolt 71 = .ok (.getfield 7, 3) := by decide +kernel
theorem dX6_bolt_74 : decode cX6_bolt 74 = .ok (.iload 4, 2) := by decide +kernel
theorem dX6_bolt_76 : decode cX6_bolt 76 = .ok (.iload_n 1, 1) := by decide +kernel
theorem dX6_bolt_77 : decode cX6_bolt 77 = .ok (.iastore, 1) := by decide +kernel
theorem dX6_bolt_78 : decode cX6_bolt 78 = .ok (.aload_n 0, 1) := by decide +kernel
theorem dX6_bolt_79 : decode cX6_bolt 79 = .ok (.getfield 7, 3) := by decide +kernel
theorem dX6_bolt_82 : decode cX6_bolt 82 = .ok (.iload 4, 2) := by decide +kernel
theorem dX6_bolt_84 : decode cX6_bolt 84 = .ok (.iconst 1, 1) := by decide +kernel
theorem dX6_bolt_85 : decode cX6_bolt 85 = .ok (.iadd, 1) := by decide +kernel
theorem dX6_bolt_86 : decode cX6_bolt 86 = .ok (.iload_n 2, 1) := by decide +kernel
theorem dX6_bolt_87 : decode cX6_bolt 87 = .ok (.iastore, 1) := by decide +kernel
theorem dX6_bolt_88 : decode cX6_bolt 88 = .ok (.aload_n 0, 1) := by decide +kernel
theorem dX6_bolt_89 : decode cX6_bolt 89 = .ok (.getfield 7, 3) := by decide +kernel
theorem dX6_bolt_92 : decode cX6_bolt 92 = .ok (.iload 4, 2) := by decide +kernel
theorem dX6_bolt_94 : decode cX6_bolt 94 = .ok (.iconst 2, 1) := by decide +kernel
theorem dX6_bolt_95 : decode cX6_bolt 95 = .ok (.iadd, 1) := by decide +kernel
theorem dX6_bolt_96 : decode cX6_bolt 96 = .ok (.iload_n 3, 1) := by decide +kernel
theorem dX6_bolt_97 : decode cX6_bolt 97 = .ok (.iastore, 1) := by decide +kernel
theorem dX6_bolt_98 : decode cX6_bolt 98 = .ok (.aload_n 0, 1) := by decide +kernel
theorem dX6_bolt_99 : decode cX6_bolt 99 = .ok (.getfield 7, 3) := by decide +kernel
theorem dX6_bolt_102 : decode cX6_bolt 102 = .ok (.iload 4, 2) := by decide +kernel
theorem dX6_bolt_104 : decode cX6_bolt 104 = .ok (.iconst 3, 1) := by decide +kernel
theorem dX6_bolt_105 : decode cX6_bolt 105 = .ok (.iadd, 1) := by decide +kernel
theorem dX6_bolt_106 : decode cX6_bolt 106 = .ok (.iconst (-1), 1) := by decide +kernel
theorem dX6_bolt_107 : decode cX6_bolt 107 = .ok (.iastore, 1) := by decide +kernel
theorem dX6_bolt_108 : decode cX6_bolt 108 = .ok (.aload_n 0, 1) := by decide +kernel
theorem dX6_bolt_109 : decode cX6_bolt 109 = .ok (.getfield 7, 3) := by decide +kernel
theorem dX6_bolt_112 : decode cX6_bolt 112 = .ok (.iconst 0, 1) := by decide +kernel
theorem dX6_bolt_113 : decode cX6_bolt 113 = .ok (.dup2, 1) := by decide +kernel
theorem dX6_bolt_114 : decode cX6_bolt 114 = .ok (.iaload, 1) := by decide +kernel
theorem dX6_bolt_115 : decode cX6_bolt 115 = .ok (.iconst 1, 1) := by decide +kernel
theorem dX6_bolt_116 : decode cX6_bolt 116 = .ok (.iadd, 1) := by decide +kernel
theorem dX6_bolt_117 : decode cX6_bolt 117 = .ok (.iastore, 1) := by decide +kernel
theorem dX6_bolt_118 : decode cX6_bolt 118 = .ok (.aload_n 0, 1) := by decide +kernel
theorem dX6_bolt_119 : decode cX6_bolt 119 = .ok (.invokevirtual 45, 3) := by decide +kernel
theorem dX6_bolt_122 : decode cX6_bolt 122 = .ok (.aload_n 0, 1) := by decide +kernel
theorem dX6_bolt_123 : decode cX6_bolt 123 = .ok (.getfield 7, 3) := by decide +kernel
theorem dX6_bolt_126 : decode cX6_bolt 126 = .ok (.iconst 0, 1) := by decide +kernel
theorem dX6_bolt_127 : decode cX6_bolt 127 = .ok (.iaload, 1) := by decide +kernel
theorem dX6_bolt_128 : decode cX6_bolt 128 = .ok (.iconst 1, 1) := by decide +kernel
theorem dX6_bolt_129 : decode cX6_bolt 129 = .ok (.isub, 1) := by decide +kernel
theorem dX6_bolt_130 : decode cX6_bolt 130 = .ok (.ireturn, 1) := by decide +kernel
set_option maxRecDepth 20000 in
theorem ggX6_moth_X6_in : GoodIn wsX6_moth wsX6_in := goodIn_r _ [6] (by decide +kernel) (by decide +kernel)
set_option maxRecDepth 20000 in
theorem gX6_moth_X6_in : GoodIn wsX6_moth (va_wsS RX6 56 yX6_in wsX6_in) := goodIn_app (goodIn_of _ (by decide +kernel)) ggX6_moth_X6_in
set_option maxRecDepth 20000 in
theorem ggX6_moth_X6_bad : GoodIn wsX6_moth wsX6_bad := goodIn_r _ [10, 11, 12, 13, 5, 14, 15, 16, 25, 26, 27, 28, 29, 30, 31, 32, 33, 34, 35, 36, 37, 38, 39, 40, 41, 42, 43, 44] (by decide +kernel) (by decide +kernel)
set_option maxRecDepth 20000 in
theorem gX6_moth_X6_bad : GoodIn wsX6_moth (wsV RX6 71 RX6 yX6_bad wsX6_bad) := goodIn_app (goodIn_of _ (by decide +kernel)) ggX6_moth_X6_bad
set_option maxRecDepth 20000 in
theorem ggX6_moth_X6_full : GoodIn wsX6_moth wsX6_full := goodIn_r _ [20, 11, 12, 13, 5, 14, 15, 16, 25, 26, 27, 28, 29, 30, 31, 32, 33, 34, 35, 36, 37, 38, 39, 40, 41, 42, 43, 44] (by decide +kernel) (by decide +kernel)
set_option maxRecDepth 20000 in
theorem gX6_moth_X6_full : GoodIn wsX6_moth (wsV RX6 75 RX6 yX6_full wsX6_full) := goodIn_app (goodIn_of _ (by decide +kernel)) ggX6_moth_X6_full
set_option maxRecDepth 20000 in
theorem ggX6_moth_X6_anew : GoodIn wsX6_moth wsX6_anew := goodIn_r _ [24, 2, 25, 26, 27, 28, 29, 30, 31, 32, 33, 34, 35, 36, 37, 38, 39, 40, 41, 42, 43, 44] (by decide +kernel) (by decide +kernel)
set_option maxRecDepth 20000 in
theorem gX6_moth_X6_anew : GoodIn wsX6_moth (wsV RX6 45 RX6 yX6_anew wsX6_anew) := goodIn_app (goodIn_of _ (by decide +kernel)) ggX6_moth_X6_anew
theorem dX6_moth_0 : decode cX6_moth 0 = .ok (.iload_n 1, 1) := by decide +kernel
theorem dX6_moth_1 : decode cX6_moth 1 = .ok (.i2l, 1) := by decide +kernel
theorem dX6_moth_2 : decode cX6_moth 2 = .ok (.lconst 0, 1) := by decide +kernel
theorem dX6_moth_3 : decode cX6_moth 3 = .ok (.ldc2_w 78, 3) := by decide +kernel
theorem dX6_moth_6 : decode cX6_moth 6 = .ok (.invokestatic 56, 3) := by decide +kernel
theorem dX6_moth_9 : decode cX6_moth 9 = .ok (.ifCond .ne 8, 3) := by decide +kernel
theorem dX6_moth_12 : decode cX6_moth 12 = .ok (.aload_n 0, 1) := by decide +kernel
theorem dX6_moth_13 : decode cX6_moth 13 = .ok (.invokevirtual 71, 3) := by decide +kernel
theorem dX6_moth_16 : decode cX6_moth 16 = .ok (.ireturn, 1) := by decide +kernel
theorem dX6_moth_17 : decode cX6_moth 17 = .ok (.aload_n 0, 1) := by decide +kernel
theorem dX6_moth_18 : decode cX6_moth 18 = .ok (.getfield 7, 3) := by decide +kernel
theorem dX6_moth_21 : decode cX6_moth 21 = .ok (.iconst 1, 1) := by decide +kernel
theorem dX6_moth_22 : decode cX6_moth 22 = .ok (.iaload, 1) := by decide +kernel
theorem dX6_moth_23 : decode cX6_moth 23 = .ok (.iconst 4, 1) := by decide +kernel
theorem dX6_moth_24 : decode cX6_moth 24 = .ok (.if_icmp .ne 8, 3) := by decide +kernel
theorem dX6_moth_27 : decode cX6_moth 27 = .ok (.aload_n 0, 1) := by decide +kernel
theorem dX6_moth_28 : decode cX6_moth 28 = .ok (.invokevirtual 75, 3) := by decide +kernel
theorem dX6_moth_31 : decode cX6_moth 31 = .ok (.ireturn, 1) := by decide +kernel
theorem dX6_moth_32 : decode cX6_moth 32 = .ok (.aload_n 0, 1) := by decide +kernel
theorem dX6_moth_33 : decode cX6_moth 33 = .ok (.getfield 7, 3) := by decide +kernel
theorem dX6_moth_36 : decode cX6_moth 36 = .ok (.bipush 56, 2) := by decide +kernel
theorem dX6_moth_38 : decode cX6_moth 38 = .ok (.aload_n 0, 1) := by decide +kernel
theorem dX6_moth_39 : decode cX6_moth 39 = .ok (.getfield 7, 3) := by decide +kernel
theorem dX6_moth_42 : decode cX6_moth 42 = .ok (.iconst 1, 1) := by decide +kernel
theorem dX6_moth_43 : decode cX6_moth 43 = .ok (.iaload, 1) := by decide +kernel
theorem dX6_moth_44 : decode cX6_moth 44 = .ok (.iadd, 1) := by decide +kernel
theorem dX6_moth_45 : decode cX6_moth 45 = .ok (.iload_n 1, 1) := by decide +kernel
theorem dX6_moth_46 : decode cX6_moth 46 = .ok (.iastore, 1) := by decide +kernel
theorem dX6_moth_47 : decode cX6_moth 47 = .ok (.aload_n 0, 1) := by decide +kernel
theorem dX6_moth_48 : decode cX6_moth 48 = .ok (.getfield 7, 3) := by decide +kernel
theorem dX6_moth_51 : decode cX6_moth 51 = .ok (.iconst 1, 1) := by decide +kernel
theorem dX6_moth_52 : decode cX6_moth 52 = .ok (.dup2, 1) := by decide +kernel
theorem dX6_moth_53 : decode cX6_moth 53 = .ok (.iaload, 1) := by decide +kernel
theorem dX6_moth_54 : decode cX6_moth 54 = .ok (.iconst 1, 1) := by decide +kernel
theorem dX6_moth_55 : decode cX6_moth 55 = .ok (.iadd, 1) := by decide +kernel
theorem dX6_moth_56 : decode cX6_moth 56 = .ok (.iastore, 1) := by decide +kernel
theorem dX6_moth_57 : decode cX6_moth 57 = .ok (.aload_n 0, 1) := by decide +kernel
theorem dX6_moth_58 : decode cX6_moth 58 = .ok (.invokevirtual 45, 3) := by decide +kernel
theorem dX6_moth_61 : decode cX6_moth 61 = .ok (.aload_n 0, 1) := by decide +kernel
theorem dX6_moth_62 : decode cX6_moth 62 = .ok (.getfield 7, 3) := by decide +kernel
theorem dX6_moth_65 : decode cX6_moth 65 = .ok (.iconst 1, 1) := by decide +kernel
theorem dX6_moth_66 : decode cX6_moth 66 = .ok (.iaload, 1) := by decide +kernel
theorem dX6_moth_67 : decode cX6_moth 67 = .ok (.iconst 1, 1) := by decide +kernel
theorem dX6_moth_68 : decode cX6_moth 68 = .ok (.isub, 1) := by decide +kernel
theorem dX6_moth_69 : decode cX6_moth 69 = .ok (.ireturn, 1) := by decide +kernel
set_option maxRecDepth 20000 in
theorem ggX6_taste_X6_in : GoodIn wsX6_taste wsX6_in := goodIn_r _ [7] (by decide +kernel) (by decide +kernel)
set_option maxRecDepth 20000 in
theorem gX6_taste_X6_in : GoodIn wsX6_taste (va_wsS RX6 56 yX6_in wsX6_in) := goodIn_app (goodIn_of _ (by decide +kernel)) ggX6_taste_X6_in
set_option maxRecDepth 20000 in
theorem ggX6_taste_X6_bad : GoodIn wsX6_taste wsX6_bad := goodIn_r _ [11, 12, 13, 14, 6, 15, 16, 17, 18, 19, 20, 21, 22, 23, 24, 25, 26, 27, 28, 29, 30, 31, 32, 33, 34, 35, 36, 37] (by decide +kernel) (by decide +kernel)
set_option maxRecDepth 20000 in
theorem gX6_taste_X6_bad : GoodIn wsX6_taste (wsV RX6 71 RX6 yX6_bad wsX6_bad) := goodIn_app (goodIn_of _ (by decide +kernel)) ggX6_taste_X6_bad
theorem dX6_taste_0 : decode cX6_taste 0 = .ok (.iload_n 1, 1) := by decide +kernel
theorem dX6_taste_1 : decode cX6_taste 1 = .ok (.i2l, 1) := by decide +kernel
theorem dX6_taste_2 : decode cX6_taste 2 = .ok (.lconst 0, 1) := by decide +kernel
theorem dX6_taste_3 : decode cX6_taste 3 = .ok (.ldc2_w 67, 3) := by decide +kernel
theorem dX6_taste_6 : decode cX6_taste 6 = .ok (.invokestatic 56, 3) := by decide +kernel
theorem dX6_taste_9 : decode cX6_taste 9 = .ok (.ifCond .eq 15, 3) := by decide +kernel
theorem dX6_taste_12 : decode cX6_taste 12 = .ok (.iload_n 2, 1) := by decide +kernel
theorem dX6_taste_13 : decode cX6_taste 13 = .ok (.i2l, 1) := by decide +kernel
theorem dX6_taste_14 : decode cX6_taste 14 = .ok (.lconst 0, 1) := by decide +kernel
theorem dX6_taste_15 : decode cX6_taste 15 = .ok (.ldc2_w 80, 3) := by decide +kernel
theorem dX6_taste_18 : decode cX6_taste 18 = .ok (.invokestatic 56, 3) := by decide +kernel
theorem dX6_taste_21 : decode cX6_taste 21 = .ok (.ifCond .ne 8, 3) := by decide +kernel
theorem dX6_taste_24 : decode cX6_taste 24 = .ok (.aload_n 0, 1) := by decide +kernel
theorem dX6_taste_25 : decode cX6_taste 25 = .ok (.invokevirtual 71, 3) := by decide +kernel
theorem dX6_taste_28 : decode cX6_taste 28 = .ok (.ireturn, 1) := by decide +kernel
theorem dX6_taste_29 : decode cX6_taste 29 = .ok (.aload_n 0, 1) := by decide +kernel
theorem dX6_taste_30 : decode cX6_taste 30 = .ok (.getfield 7, 3) := by decide +kernel
theorem dX6_taste_33 : decode cX6_taste 33 = .ok (.bipush 60, 2) := by decide +kernel
theorem dX6_taste_35 : decode cX6_taste 35 = .ok (.iload_n 1, 1) := by decide +kernel
theorem dX6_taste_36 : decode cX6_taste 36 = .ok (.iadd, 1) := by decide +kernel
theorem dX6_taste_37 : decode cX6_taste 37 = .ok (.iaload, 1) := by decide +kernel
theorem dX6_taste_38 : decode cX6_taste 38 = .ok (.istore_n 3, 1) := by decide +kernel
theorem dX6_taste_39 : decode cX6_taste 39 = .ok (.aload_n 0, 1) := by decide +kernel
theorem dX6_taste_40 : decode cX6_taste 40 = .ok (.getfield 7, 3) := by decide +kernel
theorem dX6_taste_43 : decode cX6_taste 43 = .ok (.bipush 60, 2) := by decide +kernel
theorem dX6_taste_45 : decode cX6_taste 45 = .ok (.iload_n 1, 1) := by decide +kernel
theorem dX6_taste_46 : decode cX6_taste 46 = .ok (.iadd, 1) := by decide +kernel
theorem dX6_taste_47 : decode cX6_taste 47 = .ok (.iload_n 2, 1) := by decide +kernel
theorem dX6_taste_48 : decode cX6_taste 48 = .ok (.iastore, 1) := by decide +kernel
theorem dX6_taste_49 : decode cX6_taste 49 = .ok (.iload_n 3, 1) := by decide +kernel
theorem dX6_taste_50 : decode cX6_taste 50 = .ok (.ireturn, 1) := by decide +kernel
set_option maxRecDepth 20000 in
theorem ggX6_put_X6_in : GoodIn wsX6_put wsX6_in := goodIn_r _ [9] (by decide +kernel) (by decide +kernel)
set_option maxRecDepth 20000 in
theorem gX6_put_X6_in : GoodIn wsX6_put (va_wsS RX6 56 yX6_in wsX6_in) := goodIn_app (goodIn_of _ (by decide +kernel)) ggX6_put_X6_in
set_option maxRecDepth 20000 in
theorem ggX6_put_X6_bad : GoodIn wsX6_put wsX6_bad := goodIn_r _ [13, 14, 15, 16, 8, 17, 18, 19, 24, 25, 26, 27, 28, 29, 30, 31, 32, 33, 34, 35, 36, 37, 38, 39, 40, 41, 42, 43] (by decide +kernel) (by decide +kernel)
set_option maxRecDepth 20000 in
theorem gX6_put_X6_bad : GoodIn wsX6_put (wsV RX6 71 RX6 yX6_bad wsX6_bad) := goodIn_app (goodIn_of _ (by decide +kernel)) ggX6_put_X6_bad
set_option maxRecDepth 20000 in
theorem ggX6_put_X6_anew : GoodIn wsX6_put wsX6_anew := goodIn_r _ [23, 5, 24, 25, 26, 27, 28, 29, 30, 31, 32, 33, 34, 35, 36, 37, 38, 39, 40, 41, 42, 43] (by decide +kernel) (by decide +kernel)
set_option maxRecDepth 20000 in
theorem gX6_put_X6_anew : GoodIn wsX6_put (wsV RX6 45 RX6 yX6_anew wsX6_anew) := goodIn_app (goodIn_of _ (by decide +kernel)) ggX6_put_X6_anew
theorem dX6_put_0 : decode cX6_put 0 = .ok (.iload_n 1, 1) := by decide +kernel
theorem dX6_put_1 : decode cX6_put 1 = .ok (.ifCond .ne 17, 3) := by decide +kernel
theorem dX6_put_4 : decode cX6_put 4 = .ok (.iload_n 2, 1) := by decide +kernel
theorem dX6_put_5 : decode cX6_put 5 = .ok (.i2l, 1) := by decide +kernel
theorem dX6_put_6 : decode cX6_put 6 = .ok (.ldc2_w 82, 3) := by decide +kernel
theorem dX6_put_9 : decode cX6_put 9 = .ok (.ldc2_w 84, 3) := by decide +kernel
theorem dX6_put_12 : decode cX6_put 12 = .ok (.invokestatic 56, 3) := by decide +kernel
theorem dX6_put_15 : decode cX6_put 15 = .ok (.goto 42, 3) := by decide +kernel
theorem dX6_put_18 : decode cX6_put 18 = .ok (.iload_n 1, 1) := by decide +kernel
theorem dX6_put_19 : decode cX6_put 19 = .ok (.iconst 1, 1) := by decide +kernel
theorem dX6_put_20 : decode cX6_put 20 = .ok (.if_icmp .ne 15, 3) := by decide +kernel
theorem dX6_put_23 : decode cX6_put 23 = .ok (.iload_n 2, 1) := by decide +kernel
theorem dX6_put_24 : decode cX6_put 24 = .ok (.i2l, 1) := by decide +kernel
theorem dX6_put_25 : decode cX6_put 25 = .ok (.lconst 0, 1) := by decide +kernel
theorem dX6_put_26 : decode cX6_put 26 = .ok (.ldc2_w 69, 3) := by decide +kernel
theorem dX6_put_29 : decode cX6_put 29 = .ok (.invokestatic 56, 3) := by decide +kernel
theorem dX6_put_32 : decode cX6_put 32 = .ok (.goto 25, 3) := by decide +kernel
theorem dX6_put_35 : decode cX6_put 35 = .ok (.iload_n 1, 1) := by decide +kernel
theorem dX6_put_36 : decode cX6_put 36 = .ok (.iconst 2, 1) := by decide +kernel
theorem dX6_put_37 : decode cX6_put 37 = .ok (.if_icmp .ne 19, 3) := by decide +kernel
theorem dX6_put_40 : decode cX6_put 40 = .ok (.iload_n 2, 1) := by decide +kernel
theorem dX6_put_41 : decode cX6_put 41 = .ok (.i2l, 1) := by decide +kernel
theorem dX6_put_42 : decode cX6_put 42 = .ok (.lconst 1, 1) := by decide +kernel
theorem dX6_put_43 : decode cX6_put 43 = .ok (.ldc2_w 80, 3) := by decide +kernel
theorem dX6_put_46 : decode cX6_put 46 = .ok (.invokestatic 56, 3) := by decide +kernel
theorem dX6_put_49 : decode cX6_put 49 = .ok (.ifCond .eq 7, 3) := by decide +kernel
theorem dX6_put_52 : decode cX6_put 52 = .ok (.iconst 1, 1) := by decide +kernel
theorem dX6_put_53 : decode cX6_put 53 = .ok (.goto 4, 3) := by decide +kernel
theorem dX6_put_56 : decode cX6_put 56 = .ok (.iconst 0, 1) := by decide +kernel
theorem dX6_put_57 : decode cX6_put 57 = .ok (.istore_n 3, 1) := by decide +kernel
theorem dX6_put_58 : decode cX6_put 58 = .ok (.iload_n 3, 1) := by decide +kernel
theorem dX6_put_59 : decode cX6_put 59 = .ok (.ifCond .ne 8, 3) := by decide +kernel
theorem dX6_put_62 : decode cX6_put 62 = .ok (.aload_n 0, 1) := by decide +kernel
theorem dX6_put_63 : decode cX6_put 63 = .ok (.invokevirtual 71, 3) := by decide +kernel
theorem dX6_put_66 : decode cX6_put 66 = .ok (.ireturn, 1) := by decide +kernel
theorem dX6_put_67 : decode cX6_put 67 = .ok (.aload_n 0, 1) := by decide +kernel
theorem dX6_put_68 : decode cX6_put 68 = .ok (.getfield 7, 3) := by decide +kernel
theorem dX6_put_71 : decode cX6_put 71 = .ok (.iconst 4, 1) := by decide +kernel
theorem dX6_put_72 : decode cX6_put 72 = .ok (.iload_n 1, 1) := by decide +kernel
theorem dX6_put_73 : decode cX6_put 73 = .ok (.iadd, 1) := by decide +kernel
theorem dX6_put_74 : decode cX6_put 74 = .ok (.iaload, 1) := by decide +kernel
theorem dX6_put_75 : decode cX6_put 75 = .ok (.istore 4, 2) := by decide +kernel
theorem dX6_put_77 : decode cX6_put 77 = .ok (.aload_n 0, 1) := by decide +kernel
theorem dX6_put_78 : decode cX6_put 78 = .ok (.getfield 7, 3) := by decide +kernel
theorem dX6_put_81 : decode cX6_put 81 = .ok (.iconst 4, 1) := by decide +kernel
theorem dX6_put_82 : decode cX6_put 82 = .ok (.iload_n 1, 1) := by decide +kernel
theorem dX6_put_83 : decode cX6_put 83 = .ok (.iadd, 1) := by decide +kernel
theorem dX6_put_84 : decode cX6_put 84 = .ok (.iload_n 2, 1) := by decide +kernel
theorem dX6_put_85 : decode cX6_put 85 = .ok (.iastore, 1) := by decide +kernel
theorem dX6_put_86 : decode cX6_put 86 = .ok (.iload_n 1, 1) := by decide +kernel
theorem dX6_put_87 : decode cX6_put 87 = .ok (.iconst 1, 1) := by decide +kernel
theorem dX6_put_88 : decode cX6_put 88 = .ok (.if_icmp .eq 7, 3) := by decide +kernel
theorem dX6_put_91 : decode cX6_put 91 = .ok (.aload_n 0, 1) := by decide +kernel
theorem dX6_put_92 : decode cX6_put 92 = .ok (.invokevirtual 45, 3) := by decide +kernel
theorem dX6_put_95 : decode cX6_put 95 = .ok (.iload 4, 2) := by decide +kernel
theorem dX6_put_97 : decode cX6_put 97 = .ok (.ireturn, 1) := by decide +kernel
set_option maxRecDepth 20000 in
theorem ggX6_wants_X6_ofBolt : GoodIn wsX6_wants wsX6_ofBolt := goodIn_r _ [6, 1, 7, 8, 9, 10, 11, 12, 13, 14, 15, 16, 17, 18, 19, 20, 21, 22, 23, 24, 25, 26] (by decide +kernel) (by decide +kernel)
set_option maxRecDepth 20000 in
theorem gX6_wants_X6_ofBolt : GoodIn wsX6_wants (wsV RX6 86 RX6 yX6_ofBolt wsX6_ofBolt) := goodIn_app (goodIn_of _ (by decide +kernel)) ggX6_wants_X6_ofBolt
theorem dX6_wants_0 : decode cX6_wants 0 = .ok (.aload_n 0, 1) := by decide +kernel
theorem dX6_wants_1 : decode cX6_wants 1 = .ok (.getfield 7, 3) := by decide +kernel
theorem dX6_wants_4 : decode cX6_wants 4 = .ok (.bipush 56, 2) := by decide +kernel
theorem dX6_wants_6 : decode cX6_wants 6 = .ok (.iload_n 1, 1) := by decide +kernel
theorem dX6_wants_7 : decode cX6_wants 7 = .ok (.iadd, 1) := by decide +kernel
theorem dX6_wants_8 : decode cX6_wants 8 = .ok (.iaload, 1) := by decide +kernel
theorem dX6_wants_9 : decode cX6_wants 9 = .ok (.istore 4, 2) := by decide +kernel
theorem dX6_wants_11 : decode cX6_wants 11 = .ok (.aload_n 0, 1) := by decide +kernel
theorem dX6_wants_12 : decode cX6_wants 12 = .ok (.getfield 7, 3) := by decide +kernel
theorem dX6_wants_15 : decode cX6_wants 15 = .ok (.bipush 60, 2) := by decide +kernel
theorem dX6_wants_17 : decode cX6_wants 17 = .ok (.aload_n 0, 1) := by decide +kernel
theorem dX6_wants_18 : decode cX6_wants 18 = .ok (.iload_n 2, 1) := by decide +kernel
theorem dX6_wants_19 : decode cX6_wants 19 = .ok (.iconst 0, 1) := by decide +kernel
theorem dX6_wants_20 : decode cX6_wants 20 = .ok (.invokevirtual 86, 3) := by decide +kernel
theorem dX6_wants_23 : decode cX6_wants 23 = .ok (.iadd, 1) := by decide +kernel
theorem dX6_wants_24 : decode cX6_wants 24 = .ok (.iaload, 1) := by decide +kernel
theorem dX6_wants_25 : decode cX6_wants 25 = .ok (.istore 5, 2) := by decide +kernel
theorem dX6_wants_27 : decode cX6_wants 27 = .ok (.iload_n 3, 1) := by decide +kernel
theorem dX6_wants_28 : decode cX6_wants 28 = .ok (.iconst 3, 1) := by decide +kernel
theorem dX6_wants_29 : decode cX6_wants 29 = .ok (.if_icmp .ne 7, 3) := by decide +kernel
theorem dX6_wants_32 : decode cX6_wants 32 = .ok (.iconst 0, 1) := by decide +kernel
theorem dX6_wants_33 : decode cX6_wants 33 = .ok (.goto 5, 3) := by decide +kernel
theorem dX6_wants_36 : decode cX6_wants 36 = .ok (.iload 5, 2) := by decide +kernel
theorem dX6_wants_38 : decode cX6_wants 38 = .ok (.istore 6, 2) := by decide +kernel
theorem dX6_wants_40 : decode cX6_wants 40 = .ok (.iload 4, 2) := by decide +kernel
theorem dX6_wants_42 : decode cX6_wants 42 = .ok (.iconst 1, 1) := by decide +kernel
theorem dX6_wants_43 : decode cX6_wants 43 = .ok (.if_icmp .ne 6, 3) := by decide +kernel
theorem dX6_wants_46 : decode cX6_wants 46 = .ok (.iload 6, 2) := by decide +kernel
theorem dX6_wants_48 : decode cX6_wants 48 = .ok (.ireturn, 1) := by decide +kernel
theorem dX6_wants_49 : decode cX6_wants 49 = .ok (.iload 4, 2) := by decide +kernel
theorem dX6_wants_51 : decode cX6_wants 51 = .ok (.iconst 4, 1) := by decide +kernel
theorem dX6_wants_52 : decode cX6_wants 52 = .ok (.if_icmp .ne 18, 3) := by decide +kernel
theorem dX6_wants_55 : decode cX6_wants 55 = .ok (.iload_n 3, 1) := by decide +kernel
theorem dX6_wants_56 : decode cX6_wants 56 = .ok (.iconst 1, 1) := by decide +kernel
theorem dX6_wants_57 : decode cX6_wants 57 = .ok (.if_icmp .ne 10, 3) := by decide +kernel
theorem dX6_wants_60 : decode cX6_wants 60 = .ok (.iload 6, 2) := by decide +kernel
theorem dX6_wants_62 : decode cX6_wants 62 = .ok (.iconst 3, 1) := by decide +kernel
theorem dX6_wants_63 : decode cX6_wants 63 = .ok (.iadd, 1) := by decide +kernel
theorem dX6_wants_64 : decode cX6_wants 64 = .ok (.goto 5, 3) := by decide +kernel
theorem dX6_wants_67 : decode cX6_wants 67 = .ok (.iload 6, 2) := by decide +kernel
theorem dX6_wants_69 : decode cX6_wants 69 = .ok (.ireturn, 1) := by decide +kernel
theorem dX6_wants_70 : decode cX6_wants 70 = .ok (.iload 4, 2) := by decide +kernel
theorem dX6_wants_72 : decode cX6_wants 72 = .ok (.iconst 3, 1) := by decide +kernel
theorem dX6_wants_73 : decode cX6_wants 73 = .ok (.if_icmp .ne 26, 3) := by decide +kernel
theorem dX6_wants_76 : decode cX6_wants 76 = .ok (.aload_n 0, 1) := by decide +kernel
theorem dX6_wants_77 : decode cX6_wants 77 = .ok (.iload_n 2, 1) := by decide +kernel
theorem dX6_wants_78 : decode cX6_wants 78 = .ok (.iconst 0, 1) := by decide +kernel
theorem dX6_wants_79 : decode cX6_wants 79 = .ok (.invokevirtual 86, 3) := by decide +kernel
theorem dX6_wants_82 : decode cX6_wants 82 = .ok (.ifCond .ne 12, 3) := by decide +kernel
theorem dX6_wants_85 : decode cX6_wants 85 = .ok (.iconst 2, 1) := by decide +kernel
theorem dX6_wants_86 : decode cX6_wants 86 = .ok (.iload 5, 2) := by decide +kernel
theorem dX6_wants_88 : decode cX6_wants 88 = .ok (.imul, 1) := by decide +kernel
theorem dX6_wants_89 : decode cX6_wants 89 = .ok (.iconst 5, 1) := by decide +kernel
theorem dX6_wants_90 : decode cX6_wants 90 = .ok (.iadd, 1) := by decide +kernel
theorem dX6_wants_91 : decode cX6_wants 91 = .ok (.goto 7, 3) := by decide +kernel
theorem dX6_wants_94 : decode cX6_wants 94 = .ok (.iconst 2, 1) := by decide +kernel
theorem dX6_wants_95 : decode cX6_wants 95 = .ok (.iload 5, 2) := by decide +kernel
theorem dX6_wants_97 : decode cX6_wants 97 = .ok (.imul, 1) := by decide +kernel
theorem dX6_wants_98 : decode cX6_wants 98 = .ok (.ireturn, 1) := by decide +kernel
theorem dX6_wants_99 : decode cX6_wants 99 = .ok (.iload 4, 2) := by decide +kernel
theorem dX6_wants_101 : decode cX6_wants 101 = .ok (.iconst 2, 1) := by decide +kernel
theorem dX6_wants_102 : decode cX6_wants 102 = .ok (.if_icmp .ne 10, 3) := by decide +kernel
theorem dX6_wants_105 : decode cX6_wants 105 = .ok (.iconst 2, 1) := by decide +kernel
theorem dX6_wants_106 : decode cX6_wants 106 = .ok (.iload 5, 2) := by decide +kernel
theorem dX6_wants_108 : decode cX6_wants 108 = .ok (.imul, 1) := by decide +kernel
theorem dX6_wants_109 : decode cX6_wants 109 = .ok (.goto 21, 3) := by decide +kernel
theorem dX6_wants_112 : decode cX6_wants 112 = .ok (.iload 4, 2) := by decide +kernel
theorem dX6_wants_114 : decode cX6_wants 114 = .ok (.iconst 5, 1) := by decide +kernel
theorem dX6_wants_115 : decode cX6_wants 115 = .ok (.if_icmp .ne 13, 3) := by decide +kernel
theorem dX6_wants_118 : decode cX6_wants 118 = .ok (.iconst 2, 1) := by decide +kernel
theorem dX6_wants_119 : decode cX6_wants 119 = .ok (.iload 5, 2) := by decide +kernel
theorem dX6_wants_121 : decode cX6_wants 121 = .ok (.imul, 1) := by decide +kernel
theorem dX6_wants_122 : decode cX6_wants 122 = .ok (.bipush 7, 2) := by decide +kernel
theorem dX6_wants_124 : decode cX6_wants 124 = .ok (.irem, 1) := by decide +kernel
theorem dX6_wants_125 : decode cX6_wants 125 = .ok (.goto 5, 3) := by decide +kernel
theorem dX6_wants_128 : decode cX6_wants 128 = .ok (.iload 5, 2) := by decide +kernel
theorem dX6_wants_130 : decode cX6_wants 130 = .ok (.ireturn, 1) := by decide +kernel
set_option maxRecDepth 20000 in
theorem ggX6_appetite_X6_isMoth : GoodIn wsX6_appetite wsX6_isMoth := goodIn_r _ [5, 6, 7, 8, 4, 9, 32, 33, 34, 35, 36, 37, 38, 39, 40, 41, 42, 43, 44, 45, 46, 47, 48, 49, 50, 51] (by decide +kernel) (by decide +kernel)
set_option maxRecDepth 20000 in
theorem gX6_appetite_X6_isMoth : GoodIn wsX6_appetite (wsV RX6 89 RX6 yX6_isMoth wsX6_isMoth) := goodIn_app (goodIn_of _ (by decide +kernel)) ggX6_appetite_X6_isMoth
set_option maxRecDepth 20000 in
theorem ggX6_appetite_X6_isBolt : GoodIn wsX6_appetite wsX6_isBolt := goodIn_r _ [13, 6, 7, 8, 4, 9, 32, 33, 34, 35, 36, 37, 38, 39, 40, 41, 42, 43, 44, 45, 46, 47, 48, 49, 50, 51] (by decide +kernel) (by decide +kernel)
set_option maxRecDepth 20000 in
theorem gX6_appetite_X6_isBolt : GoodIn wsX6_appetite (wsV RX6 93 RX6 yX6_isBolt wsX6_isBolt) := goodIn_app (goodIn_of _ (by decide +kernel)) ggX6_appetite_X6_isBolt
set_option maxRecDepth 20000 in
theorem ggX6_appetite_X6_ofBolt : GoodIn wsX6_appetite wsX6_ofBolt := goodIn_r _ [17, 6, 32, 33, 34, 35, 36, 37, 38, 39, 40, 41, 42, 43, 44, 45, 46, 47, 48, 49, 50, 51] (by decide +kernel) (by decide +kernel)
set_option maxRecDepth 20000 in
theorem gX6_appetite_X6_ofBolt : GoodIn wsX6_appetite (wsV RX6 86 RX6 yX6_ofBolt wsX6_ofBolt) := goodIn_app (goodIn_of _ (by decide +kernel)) ggX6_appetite_X6_ofBolt
set_option maxRecDepth 20000 in
theorem ggX6_appetite_X6_wants : GoodIn wsX6_appetite wsX6_wants := goodIn_r _ [21, 6, 14, 15, 16, 4, 17, 32, 33, 34, 35, 36, 37, 38, 39, 40, 41, 42, 43, 44, 45, 46, 47, 48, 49, 50, 51] (by decide +kernel) (by decide +kernel)
set_option maxRecDepth 20000 in
theorem gX6_appetite_X6_wants : GoodIn wsX6_appetite (wsV RX6 96 RX6 yX6_wants wsX6_wants) := goodIn_app (goodIn_of _ (by decide +kernel)) ggX6_appetite_X6_wants
set_option maxRecDepth 20000 in
theorem ggX6_appetite_X6_bad : GoodIn wsX6_appetite wsX6_bad := goodIn_r _ [25, 26, 27, 28, 4, 29, 30, 31, 32, 33, 34, 35, 36, 37, 38, 39, 40, 41, 42, 43, 44, 45, 46, 47, 48, 49, 50, 51] (by decide +kernel) (by decide +kernel)
set_option maxRecDepth 20000 in
theorem gX6_appetite_X6_bad : GoodIn wsX6_appetite (wsV RX6 71 RX6 yX6_bad wsX6_bad) := goodIn_app (goodIn_of _ (by decide +kernel)) ggX6_appetite_X6_bad
theorem dX6_appetite_0 : decode cX6_appetite 0 = .ok (.aload_n 0, 1) := by decide +kernel
theorem dX6_appetite_1 : decode cX6_appetite 1 = .ok (.iload_n 1, 1) := by decide +kernel
theorem dX6_appetite_2 : decode cX6_appetite 2 = .ok (.invokevirtual 89, 3) := by decide +kernel
theorem dX6_appetite_5 : decode cX6_appetite 5 = .ok (.ifCond .eq 26, 3) := by decide +kernel
theorem dX6_appetite_8 : decode cX6_appetite 8 = .ok (.aload_n 0, 1) := by decide +kernel
theorem dX6_appetite_9 : decode cX6_appetite 9 = .ok (.iload_n 2, 1) := by decide +kernel
theorem dX6_appetite_10 : decode cX6_appetite 10 = .ok (.invokevirtual 93, 3) := by decide +kernel
theorem dX6_appetite_13 : decode cX6_appetite 13 = .ok (.ifCond .eq 18, 3) := by decide +kernel
theorem dX6_appetite_16 : decode cX6_appetite 16 = .ok (.aload_n 0, 1) := by decide +kernel
theorem dX6_appetite_17 : decode cX6_appetite 17 = .ok (.iload_n 1, 1) := by decide +kernel
theorem dX6_appetite_18 : decode cX6_appetite 18 = .ok (.iload_n 2, 1) := by decide +kernel
theorem dX6_appetite_19 : decode cX6_appetite 19 = .ok (.aload_n 0, 1) := by decide +kernel
theorem dX6_appetite_20 : decode cX6_appetite 20 = .ok (.iload_n 2, 1) := by decide +kernel
theorem dX6_appetite_21 : decode cX6_appetite 21 = .ok (.iconst 1, 1) := by decide +kernel
theorem dX6_appetite_22 : decode cX6_appetite 22 = .ok (.invokevirtual 86, 3) := by decide +kernel
theorem dX6_appetite_25 : decode cX6_appetite 25 = .ok (.invokevirtual 96, 3) := by decide +kernel
theorem dX6_appetite_28 : decode cX6_appetite 28 = .ok (.goto 7, 3) := by decide +kernel
theorem dX6_appetite_31 : decode cX6_appetite 31 = .ok (.aload_n 0, 1) := by decide +kernel
theorem dX6_appetite_32 : decode cX6_appetite 32 = .ok (.invokevirtual 71, 3) := by decide +kernel
theorem dX6_appetite_35 : decode cX6_appetite 35 = .ok (.ireturn, 1) := by decide +kernel
set_option maxRecDepth 20000 in
theorem ggX6_type_X6_in : GoodIn wsX6_type wsX6_in := goodIn_r _ [8] (by decide +kernel) (by decide +kernel)
set_option maxRecDepth 20000 in
theorem gX6_type_X6_in : GoodIn wsX6_type (va_wsS RX6 56 yX6_in wsX6_in) := goodIn_app (goodIn_of _ (by decide +kernel)) ggX6_type_X6_in
set_option maxRecDepth 20000 in
theorem ggX6_type_X6_bad : GoodIn wsX6_type wsX6_bad := goodIn_r _ [12, 13, 14, 15, 7, 16, 17, 18, 23, 24, 25, 26, 27, 28, 29, 30, 31, 32, 33, 34, 35, 36, 37, 38, 39, 40, 41, 42] (by decide +kernel) (by decide +kernel)
set_option maxRecDepth 20000 in
theorem gX6_type_X6_bad : GoodIn wsX6_type (wsV RX6 71 RX6 yX6_bad wsX6_bad) := goodIn_app (goodIn_of _ (by decide +kernel)) ggX6_type_X6_bad
set_option maxRecDepth 20000 in
theorem ggX6_type_X6_full : GoodIn wsX6_type wsX6_full := goodIn_r _ [22, 13, 14, 15, 7, 16, 17, 18, 23, 24, 25, 26, 27, 28, 29, 30, 31, 32, 33, 34, 35, 36, 37, 38, 39, 40, 41, 42] (by decide +kernel) (by decide +kernel)
set_option maxRecDepth 20000 in
theorem gX6_type_X6_full : GoodIn wsX6_type (wsV RX6 75 RX6 yX6_full wsX6_full) := goodIn_app (goodIn_of _ (by decide +kernel)) ggX6_type_X6_full
theorem dX6_type_0 : decode cX6_type 0 = .ok (.iload_n 3, 1) := by decide +kernel
theorem dX6_type_1 : decode cX6_type 1 = .ok (.i2l, 1) := by decide +kernel
theorem dX6_type_2 : decode cX6_type 2 = .ok (.lconst 1, 1) := by decide +kernel
theorem dX6_type_3 : decode cX6_type 3 = .ok (.ldc2_w 100, 3) := by decide +kernel
theorem dX6_type_6 : decode cX6_type 6 = .ok (.invokestatic 56, 3) := by decide +kernel
theorem dX6_type_9 : decode cX6_type 9 = .ok (.ifCond .ne 8, 3) := by decide +kernel
theorem dX6_type_12 : decode cX6_type 12 = .ok (.aload_n 0, 1) := by decide +kernel
theorem dX6_type_13 : decode cX6_type 13 = .ok (.invokevirtual 71, 3) := by decide +kernel
theorem dX6_type_16 : decode cX6_type 16 = .ok (.ireturn, 1) := by decide +kernel
theorem dX6_type_17 : decode cX6_type 17 = .ok (.aload_n 0, 1) := by decide +kernel
theorem dX6_type_18 : decode cX6_type 18 = .ok (.getfield 102, 3) := by decide +kernel
theorem dX6_type_21 : decode cX6_type 21 = .ok (.iload_n 3, 1) := by decide +kernel
theorem dX6_type_22 : decode cX6_type 22 = .ok (.iadd, 1) := by decide +kernel
theorem dX6_type_23 : decode cX6_type 23 = .ok (.sipush 200, 3) := by decide +kernel
theorem dX6_type_26 : decode cX6_type 26 = .ok (.if_icmp .le 8, 3) := by decide +kernel
theorem dX6_type_29 : decode cX6_type 29 = .ok (.aload_n 0, 1) := by decide +kernel
theorem dX6_type_30 : decode cX6_type 30 = .ok (.invokevirtual 75, 3) := by decide +kernel
theorem dX6_type_33 : decode cX6_type 33 = .ok (.ireturn, 1) := by decide +kernel
theorem dX6_type_34 : decode cX6_type 34 = .ok (.iload_n 3, 1) := by decide +kernel
theorem dX6_type_35 : decode cX6_type 35 = .ok (.iconst 1, 1) := by decide +kernel
theorem dX6_type_36 : decode cX6_type 36 = .ok (.isub, 1) := by decide +kernel
theorem dX6_type_37 : decode cX6_type 37 = .ok (.istore 4, 2) := by decide +kernel
theorem dX6_type_39 : decode cX6_type 39 = .ok (.iload 4, 2) := by decide +kernel
theorem dX6_type_41 : decode cX6_type 41 = .ok (.ifCond .lt 40, 3) := by decide +kernel
theorem dX6_type_44 : decode cX6_type 44 = .ok (.aload_n 0, 1) := by decide +kernel
theorem dX6_type_45 : decode cX6_type 45 = .ok (.getfield 26, 3) := by decide +kernel
theorem dX6_type_48 : decode cX6_type 48 = .ok (.aload_n 0, 1) := by decide +kernel
theorem dX6_type_49 : decode cX6_type 49 = .ok (.getfield 102, 3) := by decide +kernel
theorem dX6_type_52 : decode cX6_type 52 = .ok (.lload_n 1, 1) := by decide +kernel
theorem dX6_type_53 : decode cX6_type 53 = .ok (.bipush 8, 2) := by decide +kernel
theorem dX6_type_55 : decode cX6_type 55 = .ok (.iload 4, 2) := by decide +kernel
theorem dX6_type_57 : decode cX6_type 57 = .ok (.imul, 1) := by decide +kernel
theorem dX6_type_58 : decode cX6_type 58 = .ok (.lshr, 1) := by decide +kernel
theorem dX6_type_59 : decode cX6_type 59 = .ok (.ldc2_w 106, 3) := by decide +kernel
theorem dX6_type_62 : decode cX6_type 62 = .ok (.land, 1) := by decide +kernel
theorem dX6_type_63 : decode cX6_type 63 = .ok (.l2i, 1) := by decide +kernel
theorem dX6_type_64 : decode cX6_type 64 = .ok (.iastore, 1) := by decide +kernel
theorem dX6_type_65 : decode cX6_type 65 = .ok (.aload_n 0, 1) := by decide +kernel
theorem dX6_type_66 : decode cX6_type 66 = .ok (.dup, 1) := by decide +kernel
theorem dX6_type_67 : decode cX6_type 67 = .ok (.getfield 102, 3) := by decide +kernel
theorem dX6_type_70 : decode cX6_type 70 = .ok (.iconst 1, 1) := by decide +kernel
theorem dX6_type_71 : decode cX6_type 71 = .ok (.iadd, 1) := by decide +kernel
theorem dX6_type_72 : decode cX6_type 72 = .ok (.putfield 102, 3) := by decide +kernel
theorem dX6_type_75 : decode cX6_type 75 = .ok (.iinc 4 (-1), 3) := by decide +kernel
theorem dX6_type_78 : decode cX6_type 78 = .ok (.goto (-39), 3) := by decide +kernel
theorem dX6_type_81 : decode cX6_type 81 = .ok (.aload_n 0, 1) := by decide +kernel
theorem dX6_type_82 : decode cX6_type 82 = .ok (.getfield 102, 3) := by decide +kernel
theorem dX6_type_85 : decode cX6_type 85 = .ok (.ireturn, 1) := by decide +kernel
theorem dX6_clear_0 : decode cX6_clear 0 = .ok (.aload_n 0, 1) := by decide +kernel
theorem dX6_clear_1 : decode cX6_clear 1 = .ok (.getfield 102, 3) := by decide +kernel
theorem dX6_clear_4 : decode cX6_clear 4 = .ok (.istore_n 1, 1) := by decide +kernel
theorem dX6_clear_5 : decode cX6_clear 5 = .ok (.aload_n 0, 1) := by decide +kernel
theorem dX6_clear_6 : decode cX6_clear 6 = .ok (.iconst 0, 1) := by decide +kernel
theorem dX6_clear_7 : decode cX6_clear 7 = .ok (.putfield 102, 3) := by decide +kernel
theorem dX6_clear_10 : decode cX6_clear 10 = .ok (.iload_n 1, 1) := by decide +kernel
theorem dX6_clear_11 : decode cX6_clear 11 = .ok (.ireturn, 1) := by decide +kernel
set_option maxRecDepth 20000 in
theorem ggX6_isAt_X6_in : GoodIn wsX6_isAt wsX6_in := goodIn_r _ [7] (by decide +kernel) (by decide +kernel)
set_option maxRecDepth 20000 in
theorem gX6_isAt_X6_in : GoodIn wsX6_isAt (va_wsS RX6 56 yX6_in wsX6_in) := goodIn_app (goodIn_of _ (by decide +kernel)) ggX6_isAt_X6_in
theorem dX6_isAt_0 : decode cX6_isAt 0 = .ok (.aload_n 0, 1) := by decide +kernel
theorem dX6_isAt_1 : decode cX6_isAt 1 = .ok (.getfield 108, 3) := by decide +kernel
theorem dX6_isAt_4 : decode cX6_isAt 4 = .ok (.aload_n 0, 1) := by decide +kernel
theorem dX6_isAt_5 : decode cX6_isAt 5 = .ok (.getfield 102, 3) := by decide +kernel
theorem dX6_isAt_8 : decode cX6_isAt 8 = .ok (.if_icmp .ge 27, 3) := by decide +kernel
theorem dX6_isAt_11 : decode cX6_isAt 11 = .ok (.aload_n 0, 1) := by decide +kernel
theorem dX6_isAt_12 : decode cX6_isAt 12 = .ok (.getfield 26, 3) := by decide +kernel
theorem dX6_isAt_15 : decode cX6_isAt 15 = .ok (.aload_n 0, 1) := by decide +kernel
theorem dX6_isAt_16 : decode cX6_isAt 16 = .ok (.getfield 108, 3) := by decide +kernel
theorem dX6_isAt_19 : decode cX6_isAt 19 = .ok (.iaload, 1) := by decide +kernel
theorem dX6_isAt_20 : decode cX6_isAt 20 = .ok (.i2l, 1) := by decide +kernel
theorem dX6_isAt_21 : decode cX6_isAt 21 = .ok (.iload_n 1, 1) := by decide +kernel
theorem dX6_isAt_22 : decode cX6_isAt 22 = .ok (.i2l, 1) := by decide +kernel
theorem dX6_isAt_23 : decode cX6_isAt 23 = .ok (.iload_n 2, 1) := by decide +kernel
theorem dX6_isAt_24 : decode cX6_isAt 24 = .ok (.i2l, 1) := by decide +kernel
theorem dX6_isAt_25 : decode cX6_isAt 25 = .ok (.invokestatic 56, 3) := by decide +kernel
theorem dX6_isAt_28 : decode cX6_isAt 28 = .ok (.ifCond .eq 7, 3) := by decide +kernel
theorem dX6_isAt_31 : decode cX6_isAt 31 = .ok (.iconst 1, 1) := by decide +kernel
theorem dX6_isAt_32 : decode cX6_isAt 32 = .ok (.goto 4, 3) := by decide +kernel
theorem dX6_isAt_35 : decode cX6_isAt 35 = .ok (.iconst 0, 1) := by decide +kernel
theorem dX6_isAt_36 : decode cX6_isAt 36 = .ok (.ireturn, 1) := by decide +kernel
theorem dX6_verbOf_0 : decode cX6_verbOf 0 = .ok (.lload_n 0, 1) := by decide +kernel
theorem dX6_verbOf_1 : decode cX6_verbOf 1 = .ok (.ldc2_w 111, 3) := by decide +kernel
theorem dX6_verbOf_4 : decode cX6_verbOf 4 = .ok (.lcmp, 1) := by decide +kernel
theorem dX6_verbOf_5 : decode cX6_verbOf 5 = .ok (.ifCond .ne 7, 3) := by decide +kernel
theorem dX6_verbOf_8 : decode cX6_verbOf 8 = .ok (.iconst 0, 1) := by decide +kernel
theorem dX6_verbOf_9 : decode cX6_verbOf 9 = .ok (.goto 40, 3) := by decide +kernel
theorem dX6_verbOf_12 : decode cX6_verbOf 12 = .ok (.lload_n 0, 1) := by decide +kernel
theorem dX6_verbOf_13 : decode cX6_verbOf 13 = .ok (.ldc2_w 113, 3) := by decide +kernel
theorem dX6_verbOf_16 : decode cX6_verbOf 16 = .ok (.lcmp, 1) := by decide +kernel
theorem dX6_verbOf_17 : decode cX6_verbOf 17 = .ok (.ifCond .ne 7, 3) := by decide +kernel
theorem dX6_verbOf_20 : decode cX6_verbOf 20 = .ok (.iconst 1, 1) := by decide +kernel
theorem dX6_verbOf_21 : decode cX6_verbOf 21 = .ok (.goto 28, 3) := by decide +kernel
theorem dX6_verbOf_24 : decode cX6_verbOf 24 = .ok (.lload_n 0, 1) := by decide +kernel
theorem dX6_verbOf_25 : decode cX6_verbOf 25 = .ok (.ldc2_w 115, 3) := by decide +kernel
theorem dX6_verbOf_28 : decode cX6_verbOf 28 = .ok (.lcmp, 1) := by decide +kernel
theorem dX6_verbOf_29 : decode cX6_verbOf 29 = .ok (.ifCond .ne 7, 3) := by decide +kernel
theorem dX6_verbOf_32 : decode cX6_verbOf 32 = .ok (.iconst 2, 1) := by decide +kernel
theorem dX6_verbOf_33 : decode cX6_verbOf 33 = .ok (.goto 16, 3) := by decide +kernel
theorem dX6_verbOf_36 : decode cX6_verbOf 36 = .ok (.lload_n 0, 1) := by decide +kernel
theorem dX6_verbOf_37 : decode cX6_verbOf 37 = .ok (.ldc2_w 117, 3) := by decide +kernel
theorem dX6_verbOf_40 : decode cX6_verbOf 40 = .ok (.lcmp, 1) := by decide +kernel
theorem dX6_verbOf_41 : decode cX6_verbOf 41 = .ok (.ifCond .ne 7, 3) := by decide +kernel
theorem dX6_verbOf_44 : decode cX6_verbOf 44 = .ok (.iconst 3, 1) := by decide +kernel
theorem dX6_verbOf_45 : decode cX6_verbOf 45 = .ok (.goto 4, 3) := by decide +kernel
theorem dX6_verbOf_48 : decode cX6_verbOf 48 = .ok (.iconst (-1), 1) := by decide +kernel
theorem dX6_verbOf_49 : decode cX6_verbOf 49 = .ok (.istore_n 2, 1) := by decide +kernel
theorem dX6_verbOf_50 : decode cX6_verbOf 50 = .ok (.lload_n 0, 1) := by decide +kernel
theorem dX6_verbOf_51 : decode cX6_verbOf 51 = .ok (.ldc2_w 119, 3) := by decide +kernel
theorem dX6_verbOf_54 : decode cX6_verbOf 54 = .ok (.lcmp, 1) := by decide +kernel
theorem dX6_verbOf_55 : decode cX6_verbOf 55 = .ok (.ifCond .ne 7, 3) := by decide +kernel
theorem dX6_verbOf_58 : decode cX6_verbOf 58 = .ok (.iconst 4, 1) := by decide +kernel
theorem dX6_verbOf_59 : decode cX6_verbOf 59 = .ok (.goto 29, 3) := by decide +kernel
theorem dX6_verbOf_62 : decode cX6_verbOf 62 = .ok (.lload_n 0, 1) := by decide +kernel
theorem dX6_verbOf_63 : decode cX6_verbOf 63 = .ok (.ldc2_w 121, 3) := by decide +kernel
theorem dX6_verbOf_66 : decode cX6_verbOf 66 = .ok (.lcmp, 1) := by decide +kernel
theorem dX6_verbOf_67 : decode cX6_verbOf 67 = .ok (.ifCond .ne 7, 3) := by decide +kernel
theorem dX6_verbOf_70 : decode cX6_verbOf 70 = .ok (.iconst 5, 1) := by decide +kernel
theorem dX6_verbOf_71 : decode cX6_verbOf 71 = .ok (.goto 17, 3) := by decide +kernel
theorem dX6_verbOf_74 : decode cX6_verbOf 74 = .ok (.lload_n 0, 1) := by decide +kernel
theorem dX6_verbOf_75 : decode cX6_verbOf 75 = .ok (.ldc2_w 123, 3) := by decide +kernel
theorem dX6_verbOf_78 : decode cX6_verbOf 78 = .ok (.lcmp, 1) := by decide +kernel
theorem dX6_verbOf_79 : decode cX6_verbOf 79 = .ok (.ifCond .ne 8, 3) := by decide +kernel
theorem dX6_verbOf_82 : decode cX6_verbOf 82 = .ok (.bipush 6, 2) := by decide +kernel
theorem dX6_verbOf_84 : decode cX6_verbOf 84 = .ok (.goto 4, 3) := by decide +kernel
theorem dX6_verbOf_87 : decode cX6_verbOf 87 = .ok (.iconst (-1), 1) := by decide +kernel
theorem dX6_verbOf_88 : decode cX6_verbOf 88 = .ok (.istore_n 3, 1) := by decide +kernel
theorem dX6_verbOf_89 : decode cX6_verbOf 89 = .ok (.iload_n 2, 1) := by decide +kernel
theorem dX6_verbOf_90 : decode cX6_verbOf 90 = .ok (.iconst (-1), 1) := by decide +kernel
theorem dX6_verbOf_91 : decode cX6_verbOf 91 = .ok (.if_icmp .eq 7, 3) := by decide +kernel
theorem dX6_verbOf_94 : decode cX6_verbOf 94 = .ok (.iload_n 2, 1) := by decide +kernel
theorem dX6_verbOf_95 : decode cX6_verbOf 95 = .ok (.goto 4, 3) := by decide +kernel
theorem dX6_verbOf_98 : decode cX6_verbOf 98 = .ok (.iload_n 3, 1) := by decide +kernel
theorem dX6_verbOf_99 : decode cX6_verbOf 99 = .ok (.ireturn, 1) := by decide +kernel
set_option maxRecDepth 20000 in
theorem ggX6_scans_X6_isAt : GoodIn wsX6_scans wsX6_isAt := goodIn_r _ [13, 1, 3, 6, 14, 15, 12, 16, 27, 28, 29, 30, 31, 32, 33, 34, 35, 36, 37, 38, 39, 40, 41, 42, 43, 44, 45, 46] (by decide +kernel) (by decide +kernel)
set_option maxRecDepth 20000 in
theorem gX6_scans_X6_isAt : GoodIn wsX6_scans (wsV RX6 125 RX6 yX6_isAt wsX6_isAt) := goodIn_app (goodIn_of _ (by decide +kernel)) ggX6_scans_X6_isAt
set_option maxRecDepth 20000 in
theorem ggX6_scans_X6_verbOf : GoodIn wsX6_scans wsX6_verbOf := goodIn_r _ [19, 20, 21, 22, 23, 24, 25, 26] (by decide +kernel) (by decide +kernel)
set_option maxRecDepth 20000 in
theorem gX6_scans_X6_verbOf : GoodIn wsX6_scans (va_wsS RX6 139 yX6_verbOf wsX6_verbOf) := goodIn_app (goodIn_of _ (by decide +kernel)) ggX6_scans_X6_verbOf
theorem dX6_scans_0 : decode cX6_scans 0 = .ok (.aload_n 0, 1) := by decide +kernel
theorem dX6_scans_1 : decode cX6_scans 1 = .ok (.bipush 32, 2) := by decide +kernel
theorem dX6_scans_3 : decode cX6_scans 3 = .ok (.bipush 32, 2) := by decide +kernel
theorem dX6_scans_5 : decode cX6_scans 5 = .ok (.invokevirtual 125, 3) := by decide +kernel
theorem dX6_scans_8 : decode cX6_scans 8 = .ok (.ifCond .eq 16, 3) := by decide +kernel
theorem dX6_scans_11 : decode cX6_scans 11 = .ok (.aload_n 0, 1) := by decide +kernel
theorem dX6_scans_12 : decode cX6_scans 12 = .ok (.dup, 1) := by decide +kernel
theorem dX6_scans_13 : decode cX6_scans 13 = .ok (.getfield 108, 3) := by decide +kernel
theorem dX6_scans_16 : decode cX6_scans 16 = .ok (.iconst 1, 1) := by decide +kernel
theorem dX6_scans_17 : decode cX6_scans 17 = .ok (.iadd, 1) := by decide +kernel
theorem dX6_scans_18 : decode cX6_scans 18 = .ok (.putfield 108, 3) := by decide +kernel
theorem dX6_scans_21 : decode cX6_scans 21 = .ok (.goto (-21), 3) := by decide +kernel
theorem dX6_scans_24 : decode cX6_scans 24 = .ok (.aload_n 0, 1) := by decide +kernel
theorem dX6_scans_25 : decode cX6_scans 25 = .ok (.aload_n 0, 1) := by decide +kernel
theorem dX6_scans_26 : decode cX6_scans 26 = .ok (.getfield 108, 3) := by decide +kernel
theorem dX6_scans_29 : decode cX6_scans 29 = .ok (.putfield 129, 3) := by decide +kernel
theorem dX6_scans_32 : decode cX6_scans 32 = .ok (.aload_n 0, 1) := by decide +kernel
theorem dX6_scans_33 : decode cX6_scans 33 = .ok (.getfield 108, 3) := by decide +kernel
theorem dX6_scans_36 : decode cX6_scans 36 = .ok (.aload_n 0, 1) := by decide +kernel
theorem dX6_scans_37 : decode cX6_scans 37 = .ok (.getfield 102, 3) := by decide +kernel
theorem dX6_scans_40 : decode cX6_scans 40 = .ok (.if_icmp .ne 9, 3) := by decide +kernel
theorem dX6_scans_43 : decode cX6_scans 43 = .ok (.aload_n 0, 1) := by decide +kernel
theorem dX6_scans_44 : decode cX6_scans 44 = .ok (.iconst 0, 1) := by decide +kernel
theorem dX6_scans_45 : decode cX6_scans 45 = .ok (.putfield 132, 3) := by decide +kernel
theorem dX6_scans_48 : decode cX6_scans 48 = .ok (.return_, 1) := by decide +kernel
theorem dX6_scans_49 : decode cX6_scans 49 = .ok (.aload_n 0, 1) := by decide +kernel
theorem dX6_scans_50 : decode cX6_scans 50 = .ok (.bipush 97, 2) := by decide +kernel
theorem dX6_scans_52 : decode cX6_scans 52 = .ok (.bipush 122, 2) := by decide +kernel
theorem dX6_scans_54 : decode cX6_scans 54 = .ok (.invokevirtual 125, 3) := by decide +kernel
theorem dX6_scans_57 : decode cX6_scans 57 = .ok (.ifCond .eq 105, 3) := by decide +kernel
theorem dX6_scans_60 : decode cX6_scans 60 = .ok (.lconst 0, 1) := by decide +kernel
theorem dX6_scans_61 : decode cX6_scans 61 = .ok (.lstore_n 1, 1) := by decide +kernel
theorem dX6_scans_62 : decode cX6_scans 62 = .ok (.aload_n 0, 1) := by decide +kernel
theorem dX6_scans_63 : decode cX6_scans 63 = .ok (.bipush 97, 2) := by decide +kernel
theorem dX6_scans_65 : decode cX6_scans 65 = .ok (.bipush 122, 2) := by decide +kernel
theorem dX6_scans_67 : decode cX6_scans 67 = .ok (.invokevirtual 125, 3) := by decide +kernel
theorem dX6_scans_70 : decode cX6_scans 70 = .ok (.ifCond .eq 56, 3) := by decide +kernel
theorem dX6_scans_73 : decode cX6_scans 73 = .ok (.aload_n 0, 1) := by decide +kernel
theorem dX6_scans_74 : decode cX6_scans 74 = .ok (.getfield 108, 3) := by decide +kernel
theorem dX6_scans_77 : decode cX6_scans 77 = .ok (.aload_n 0, 1) := by decide +kernel
theorem dX6_scans_78 : decode cX6_scans 78 = .ok (.getfield 129, 3) := by decide +kernel
theorem dX6_scans_81 : decode cX6_scans 81 = .ok (.isub, 1) := by decide +kernel
theorem dX6_scans_82 : decode cX6_scans 82 = .ok (.iconst 5, 1) := by decide +kernel
theorem dX6_scans_83 : decode cX6_scans 83 = .ok (.if_icmp .le 7, 3) := by decide +kernel
theorem dX6_scans_86 : decode cX6_scans 86 = .ok (.lconst 0, 1) := by decide +kernel
theorem dX6_scans_87 : decode cX6_scans 87 = .ok (.goto 25, 3) := by decide +kernel
theorem dX6_scans_90 : decode cX6_scans 90 = .ok (.ldc2_w 135, 3) := by decide +kernel
theorem dX6_scans_93 : decode cX6_scans 93 = .ok (.lload_n 1, 1) := by decide +kernel
theorem dX6_scans_94 : decode cX6_scans 94 = .ok (.lmul, 1) := by decide +kernel
theorem dX6_scans_95 : decode cX6_scans 95 = .ok (.aload_n 0, 1) := by decide +kernel
theorem dX6_scans_96 : decode cX6_scans 96 = .ok (.getfield 26, 3) := by decide +kernel
theorem dX6_scans_99 : decode cX6_scans 99 = .ok (.aload_n 0, 1) := by decide +kernel
theorem dX6_scans_100 : decode cX6_scans 100 = .ok (.getfield 108, 3) := by decide +kernel
theorem dX6_scans_103 : decode cX6_scans 103 = .ok (.iaload, 1) := by decide +kernel
theorem dX6_scans_104 : decode cX6_scans 104 = .ok (.i2l, 1) := by decide +kernel
theorem dX6_scans_105 : decode cX6_scans 105 = .ok (.ladd, 1) := by decide +kernel
theorem dX6_scans_106 : decode cX6_scans 106 = .ok (.ldc2_w 137, 3) := by decide +kernel
theorem dX6_scans_109 : decode cX6_scans 109 = .ok (.lsub, 1) := by decide +kernel
theorem dX6_scans_110 : decode cX6_scans 110 = .ok (.lconst 1, 1) := by decide +kernel
theorem dX6_scans_111 : decode cX6_scans 111 = .ok (.ladd, 1) := by decide +kernel
theorem dX6_scans_112 : decode cX6_scans 112 = .ok (.lstore_n 1, 1) := by decide +kernel
theorem dX6_scans_113 : decode cX6_scans 113 = .ok (.aload_n 0, 1) := by decide +kernel
theorem dX6_scans_114 : decode cX6_scans 114 = .ok (.dup, 1) := by decide +kernel
theorem dX6_scans_115 : decode cX6_scans 115 = .ok (.getfield 108, 3) := by decide +kernel
theorem dX6_scans_118 : decode cX6_scans 118 = .ok (.iconst 1, 1) := by decide +kernel
theorem dX6_scans_119 : decode cX6_scans 119 = .ok (.iadd, 1) := by decide +kernel
theorem dX6_scans_120 : decode cX6_scans 120 = .ok (.putfield 108, 3) := by decide +kernel
theorem dX6_scans_123 : decode cX6_scans 123 = .ok (.goto (-61), 3) := by decide +kernel
theorem dX6_scans_126 : decode cX6_scans 126 = .ok (.aload_n 0, 1) := by decide +kernel
theorem dX6_scans_127 : decode cX6_scans 127 = .ok (.aload_n 0, 1) := by decide +kernel
theorem dX6_scans_128 : decode cX6_scans 128 = .ok (.getfield 108, 3) := by decide +kernel
theorem dX6_scans_131 : decode cX6_scans 131 = .ok (.aload_n 0, 1) := by decide +kernel
theorem dX6_scans_132 : decode cX6_scans 132 = .ok (.getfield 129, 3) := by decide +kernel
theorem dX6_scans_135 : decode cX6_scans 135 = .ok (.isub, 1) := by decide +kernel
theorem dX6_scans_136 : decode cX6_scans 136 = .ok (.iconst 5, 1) := by decide +kernel
theorem dX6_scans_137 : decode cX6_scans 137 = .ok (.if_icmp .gt 11, 3) := by decide +kernel
theorem dX6_scans_140 : decode cX6_scans 140 = .ok (.lload_n 1, 1) := by decide +kernel
theorem dX6_scans_141 : decode cX6_scans 141 = .ok (.invokestatic 139, 3) := by decide +kernel
theorem dX6_scans_144 : decode cX6_scans 144 = .ok (.iconst (-1), 1) := by decide +kernel
theorem dX6_scans_145 : decode cX6_scans 145 = .ok (.if_icmp .ne 7, 3) := by decide +kernel
theorem dX6_scans_148 : decode cX6_scans 148 = .ok (.iconst 1, 1) := by decide +kernel
theorem dX6_scans_149 : decode cX6_scans 149 = .ok (.goto 9, 3) := by decide +kernel
theorem dX6_scans_152 : decode cX6_scans 152 = .ok (.iconst 4, 1) := by decide +kernel
theorem dX6_scans_153 : decode cX6_scans 153 = .ok (.lload_n 1, 1) := by decide +kernel
theorem dX6_scans_154 : decode cX6_scans 154 = .ok (.invokestatic 139, 3) := by decide +kernel
theorem dX6_scans_157 : decode cX6_scans 157 = .ok (.iadd, 1) := by decide +kernel
theorem dX6_scans_158 : decode cX6_scans 158 = .ok (.putfield 132, 3) := by decide +kernel
theorem dX6_scans_161 : decode cX6_scans 161 = .ok (.return_, 1) := by decide +kernel
theorem dX6_scans_162 : decode cX6_scans 162 = .ok (.aload_n 0, 1) := by decide +kernel
theorem dX6_scans_163 : decode cX6_scans 163 = .ok (.bipush 48, 2) := by decide +kernel
theorem dX6_scans_165 : decode cX6_scans 165 = .ok (.bipush 57, 2) := by decide +kernel
theorem dX6_scans_167 : decode cX6_scans 167 = .ok (.invokevirtual 125, 3) := by decide +kernel
theorem dX6_scans_170 : decode cX6_scans 170 = .ok (.ifCond .eq 99, 3) := by decide +kernel
theorem dX6_scans_173 : decode cX6_scans 173 = .ok (.aload_n 0, 1) := by decide +kernel
theorem dX6_scans_174 : decode cX6_scans 174 = .ok (.iconst 0, 1) := by decide +kernel
theorem dX6_scans_175 : decode cX6_scans 175 = .ok (.putfield 143, 3) := by decide +kernel
theorem dX6_scans_178 : decode cX6_scans 178 = .ok (.aload_n 0, 1) := by decide +kernel
theorem dX6_scans_179 : decode cX6_scans 179 = .ok (.bipush 48, 2) := by decide +kernel
theorem dX6_scans_181 : decode cX6_scans 181 = .ok (.bipush 57, 2) := by decide +kernel
theorem dX6_scans_183 : decode cX6_scans 183 = .ok (.invokevirtual 125, 3) := by decide +kernel
theorem dX6_scans_186 : decode cX6_scans 186 = .ok (.ifCond .eq 60, 3) := by decide +kernel
theorem dX6_scans_189 : decode cX6_scans 189 = .ok (.aload_n 0, 1) := by decide +kernel
theorem dX6_scans_190 : decode cX6_scans 190 = .ok (.aload_n 0, 1) := by decide +kernel
theorem dX6_scans_191 : decode cX6_scans 191 = .ok (.getfield 108, 3) := by decide +kernel
theorem dX6_scans_194 : decode cX6_scans 194 = .ok (.aload_n 0, 1) := by decide +kernel
theorem dX6_scans_195 : decode cX6_scans 195 = .ok (.getfield 129, 3) := by decide +kernel
theorem dX6_scans_198 : decode cX6_scans 198 = .ok (.isub, 1) := by decide +kernel
theorem dX6_scans_199 : decode cX6_scans 199 = .ok (.iconst 2, 1) := by decide +kernel
theorem dX6_scans_200 : decode cX6_scans 200 = .ok (.if_icmp .ge 26, 3) := by decide +kernel
theorem dX6_scans_203 : decode cX6_scans 203 = .ok (.bipush 10, 2) := by decide +kernel
theorem dX6_scans_205 : decode cX6_scans 205 = .ok (.aload_n 0, 1) := by decide +kernel
theorem dX6_scans_206 : decode cX6_scans 206 = .ok (.getfield 143, 3) := by decide +kernel
theorem dX6_scans_209 : decode cX6_scans 209 = .ok (.imul, 1) := by decide +kernel
theorem dX6_scans_210 : decode cX6_scans 210 = .ok (.aload_n 0, 1) := by decide +kernel
theorem dX6_scans_211 : decode cX6_scans 211 = .ok (.getfield 26, 3) := by decide +kernel
theorem dX6_scans_214 : decode cX6_scans 214 = .ok (.aload_n 0, 1) := by decide +kernel
theorem dX6_scans_215 : decode cX6_scans 215 = .ok (.getfield 108, 3) := by decide +kernel
theorem dX6_scans_218 : decode cX6_scans 218 = .ok (.iaload, 1) := by decide +kernel
theorem dX6_scans_219 : decode cX6_scans 219 = .ok (.iadd, 1) := by decide +kernel
theorem dX6_scans_220 : decode cX6_scans 220 = .ok (.bipush 48, 2) := by decide +kernel
theorem dX6_scans_222 : decode cX6_scans 222 = .ok (.isub, 1) := by decide +kernel
theorem dX6_scans_223 : decode cX6_scans 223 = .ok (.goto 7, 3) := by decide +kernel
theorem dX6_scans_226 : decode cX6_scans 226 = .ok (.aload_n 0, 1) := by decide +kernel
theorem dX6_scans_227 : decode cX6_scans 227 = .ok (.getfield 143, 3) := by decide +kernel
theorem dX6_scans_230 : decode cX6_scans 230 = .ok (.putfield 143, 3) := by decide +kernel
theorem dX6_scans_233 : decode cX6_scans 233 = .ok (.aload_n 0, 1) := by decide +kernel
theorem dX6_scans_234 : decode cX6_scans 234 = .ok (.dup, 1) := by decide +kernel
theorem dX6_scans_235 : decode cX6_scans 235 = .ok (.getfield 108, 3) := by decide +kernel
theorem dX6_scans_238 : decode cX6_scans 238 = .ok (.iconst 1, 1) := by decide +kernel
theorem dX6_scans_239 : decode cX6_scans 239 = .ok (.iadd, 1) := by decide +kernel
theorem dX6_scans_240 : decode cX6_scans 240 = .ok (.putfield 108, 3) := by decide +kernel
theorem dX6_scans_243 : decode cX6_scans 243 = .ok (.goto (-65), 3) := by decide +kernel
theorem dX6_scans_246 : decode cX6_scans 246 = .ok (.aload_n 0, 1) := by decide +kernel
theorem dX6_scans_247 : decode cX6_scans 247 = .ok (.aload_n 0, 1) := by decide +kernel
theorem dX6_scans_248 : decode cX6_scans 248 = .ok (.getfield 108, 3) := by decide +kernel
theorem dX6_scans_251 : decode cX6_scans 251 = .ok (.aload_n 0, 1) := by decide +kernel
theorem dX6_scans_252 : decode cX6_scans 252 = .ok (.getfield 129, 3) := by decide +kernel
theorem dX6_scans_255 : decode cX6_scans 255 = .ok (.isub, 1) := by decide +kernel
theorem dX6_scans_256 : decode cX6_scans 256 = .ok (.iconst 2, 1) := by decide +kernel
theorem dX6_scans_257 : decode cX6_scans 257 = .ok (.if_icmp .le 7, 3) := by decide +kernel
theorem dX6_scans_260 : decode cX6_scans 260 = .ok (.iconst 1, 1) := by decide +kernel
theorem dX6_scans_261 : decode cX6_scans 261 = .ok (.goto 4, 3) := by decide +kernel
theorem dX6_scans_264 : decode cX6_scans 264 = .ok (.iconst 2, 1) := by decide +kernel
theorem dX6_scans_265 : decode cX6_scans 265 = .ok (.putfield 132, 3) := by decide +kernel
theorem dX6_scans_268 : decode cX6_scans 268 = .ok (.return_, 1) := by decide +kernel
theorem dX6_scans_269 : decode cX6_scans 269 = .ok (.aload_n 0, 1) := by decide +kernel
theorem dX6_scans_270 : decode cX6_scans 270 = .ok (.aload_n 0, 1) := by decide +kernel
theorem dX6_scans_271 : decode cX6_scans 271 = .ok (.bipush 59, 2) := by decide +kernel
theorem dX6_scans_273 : decode cX6_scans 273 = .ok (.bipush 59, 2) := by decide +kernel
theorem dX6_scans_275 : decode cX6_scans 275 = .ok (.invokevirtual 125, 3) := by decide +kernel
theorem dX6_scans_278 : decode cX6_scans 278 = .ok (.ifCond .eq 7, 3) := by decide +kernel
theorem dX6_scans_281 : decode cX6_scans 281 = .ok (.iconst 3, 1) := by decide +kernel
theorem dX6_scans_282 : decode cX6_scans 282 = .ok (.goto 4, 3) := by decide +kernel
theorem dX6_scans_285 : decode cX6_scans 285 = .ok (.iconst 1, 1) := by decide +kernel
theorem dX6_scans_286 : decode cX6_scans 286 = .ok (.putfield 132, 3) := by decide +kernel
theorem dX6_scans_289 : decode cX6_scans 289 = .ok (.aload_n 0, 1) := by decide +kernel
theorem dX6_scans_290 : decode cX6_scans 290 = .ok (.dup, 1) := by decide +kernel
theorem dX6_scans_291 : decode cX6_scans 291 = .ok (.getfield 108, 3) := by decide +kernel
theorem dX6_scans_294 : decode cX6_scans 294 = .ok (.iconst 1, 1) := by decide +kernel
theorem dX6_scans_295 : decode cX6_scans 295 = .ok (.iadd, 1) := by decide +kernel
theorem dX6_scans_296 : decode cX6_scans 296 = .ok (.putfield 108, 3) := by decide +kernel
theorem dX6_scans_299 : decode cX6_scans 299 = .ok (.return_, 1) := by decide +kernel
theorem dX6_numbers_0 : decode cX6_numbers 0 = .ok (.iload_n 0, 1) := by decide +kernel
theorem dX6_numbers_1 : decode cX6_numbers 1 = .ok (.ifCond .ne 7, 3) := by decide +kernel
theorem dX6_numbers_4 : decode cX6_numbers 4 = .ok (.iconst 3, 1) := by decide +kernel
theorem dX6_numbers_5 : decode cX6_numbers 5 = .ok (.goto 19, 3) := by decide +kernel
theorem dX6_numbers_8 : decode cX6_numbers 8 = .ok (.iload_n 0, 1) := by decide +kernel
theorem dX6_numbers_9 : decode cX6_numbers 9 = .ok (.iconst 2, 1) := by decide +kernel
theorem dX6_numbers_10 : decode cX6_numbers 10 = .ok (.if_icmp .eq 9, 3) := by decide +kernel
theorem dX6_numbers_13 : decode cX6_numbers 13 = .ok (.iload_n 0, 1) := by decide +kernel
theorem dX6_numbers_14 : decode cX6_numbers 14 = .ok (.bipush 6, 2) := by decide +kernel
theorem dX6_numbers_16 : decode cX6_numbers 16 = .ok (.if_icmp .ne 7, 3) := by decide +kernel
theorem dX6_numbers_19 : decode cX6_numbers 19 = .ok (.iconst 2, 1) := by decide +kernel
theorem dX6_numbers_20 : decode cX6_numbers 20 = .ok (.goto 4, 3) := by decide +kernel
theorem dX6_numbers_23 : decode cX6_numbers 23 = .ok (.iconst 1, 1) := by decide +kernel
theorem dX6_numbers_24 : decode cX6_numbers 24 = .ok (.ireturn, 1) := by decide +kernel
set_option maxRecDepth 20000 in
theorem ggX6_reads_X6_scans : GoodIn wsX6_reads wsX6_scans := goodIn_r _ [10, 1, 11, 12, 3, 13, 14, 15, 5, 16, 17, 18, 9, 19, 20, 21, 22, 23, 24, 25, 26, 27, 28, 29, 30, 31, 32, 36, 37, 38, 39, 40, 41, 42, 43, 44, 45, 46, 47, 48, 49, 50, 51, 52, 53, 54, 55] (by decide +kernel) (by decide +kernel)
set_option maxRecDepth 20000 in
theorem gX6_reads_X6_scans : GoodIn wsX6_reads (wsV RX6 149 RX6 yX6_scans wsX6_scans) := goodIn_app (goodIn_of _ (by decide +kernel)) ggX6_reads_X6_scans
set_option maxRecDepth 20000 in
theorem ggX6_reads_X6_numbers : GoodIn wsX6_reads wsX6_numbers := goodIn_r _ [35] (by decide +kernel) (by decide +kernel)
set_option maxRecDepth 20000 in
theorem gX6_reads_X6_numbers : GoodIn wsX6_reads (va_wsS RX6 152 yX6_numbers wsX6_numbers) := goodIn_app (goodIn_of _ (by decide +kernel)) ggX6_reads_X6_numbers
theorem dX6_reads_0 : decode cX6_reads 0 = .ok (.aload_n 0, 1) := by decide +kernel
theorem dX6_reads_1 : decode cX6_reads 1 = .ok (.iconst 0, 1) := by decide +kernel
theorem dX6_reads_2 : decode cX6_reads 2 = .ok (.putfield 108, 3) := by decide +kernel
theorem dX6_reads_5 : decode cX6_reads 5 = .ok (.aload_n 0, 1) := by decide +kernel
theorem dX6_reads_6 : decode cX6_reads 6 = .ok (.iconst 0, 1) := by decide +kernel
theorem dX6_reads_7 : decode cX6_reads 7 = .ok (.putfield 146, 3) := by decide +kernel
theorem dX6_reads_10 : decode cX6_reads 10 = .ok (.aload_n 0, 1) := by decide +kernel
theorem dX6_reads_11 : decode cX6_reads 11 = .ok (.invokevirtual 149, 3) := by decide +kernel
theorem dX6_reads_14 : decode cX6_reads 14 = .ok (.aload_n 0, 1) := by decide +kernel
theorem dX6_reads_15 : decode cX6_reads 15 = .ok (.getfield 132, 3) := by decide +kernel
theorem dX6_reads_18 : decode cX6_reads 18 = .ok (.ifCond .eq 108, 3) := by decide +kernel
theorem dX6_reads_21 : decode cX6_reads 21 = .ok (.aload_n 0, 1) := by decide +kernel
theorem dX6_reads_22 : decode cX6_reads 22 = .ok (.getfield 132, 3) := by decide +kernel
theorem dX6_reads_25 : decode cX6_reads 25 = .ok (.iconst 4, 1) := by decide +kernel
theorem dX6_reads_26 : decode cX6_reads 26 = .ok (.isub, 1) := by decide +kernel
theorem dX6_reads_27 : decode cX6_reads 27 = .ok (.istore_n 1, 1) := by decide +kernel
theorem dX6_reads_28 : decode cX6_reads 28 = .ok (.iload_n 1, 1) := by decide +kernel
theorem dX6_reads_29 : decode cX6_reads 29 = .ok (.ifCond .ge 5, 3) := by decide +kernel
