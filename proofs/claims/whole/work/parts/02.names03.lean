theorem dX4_copyFrom_45 : decode cX4_copyFrom 45 = .ok (.aload_n 1, 1) := by decide +kernel
theorem dX4_copyFrom_46 : decode cX4_copyFrom 46 = .ok (.getfield 39, 3) := by decide +kernel
theorem dX4_copyFrom_49 : decode cX4_copyFrom 49 = .ok (.putfield 39, 3) := by decide +kernel
theorem dX4_copyFrom_52 : decode cX4_copyFrom 52 = .ok (.aload_n 1, 1) := by decide +kernel
theorem dX4_copyFrom_53 : decode cX4_copyFrom 53 = .ok (.getfield 24, 3) := by decide +kernel
theorem dX4_copyFrom_56 : decode cX4_copyFrom 56 = .ok (.aload_n 0, 1) := by decide +kernel
theorem dX4_copyFrom_57 : decode cX4_copyFrom 57 = .ok (.getfield 24, 3) := by decide +kernel
theorem dX4_copyFrom_60 : decode cX4_copyFrom 60 = .ok (.invokestatic 58, 3) := by decide +kernel
theorem dX4_copyFrom_63 : decode cX4_copyFrom 63 = .ok (.aload_n 0, 1) := by decide +kernel
theorem dX4_copyFrom_64 : decode cX4_copyFrom 64 = .ok (.aload_n 1, 1) := by decide +kernel
theorem dX4_copyFrom_65 : decode cX4_copyFrom 65 = .ok (.getfield 43, 3) := by decide +kernel
theorem dX4_copyFrom_68 : decode cX4_copyFrom 68 = .ok (.putfield 43, 3) := by decide +kernel
theorem dX4_copyFrom_71 : decode cX4_copyFrom 71 = .ok (.aload_n 1, 1) := by decide +kernel
theorem dX4_copyFrom_72 : decode cX4_copyFrom 72 = .ok (.getfield 27, 3) := by decide +kernel
theorem dX4_copyFrom_75 : decode cX4_copyFrom 75 = .ok (.aload_n 0, 1) := by decide +kernel
theorem dX4_copyFrom_76 : decode cX4_copyFrom 76 = .ok (.getfield 27, 3) := by decide +kernel
theorem dX4_copyFrom_79 : decode cX4_copyFrom 79 = .ok (.invokestatic 58, 3) := by decide +kernel
theorem dX4_copyFrom_82 : decode cX4_copyFrom 82 = .ok (.aload_n 0, 1) := by decide +kernel
theorem dX4_copyFrom_83 : decode cX4_copyFrom 83 = .ok (.aload_n 1, 1) := by decide +kernel
theorem dX4_copyFrom_84 : decode cX4_copyFrom 84 = .ok (.getfield 46, 3) := by decide +kernel
theorem dX4_copyFrom_87 : decode cX4_copyFrom 87 = .ok (.putfield 46, 3) := by decide +kernel
theorem dX4_copyFrom_90 : decode cX4_copyFrom 90 = .ok (.aload_n 0, 1) := by decide +kernel
theorem dX4_copyFrom_91 : decode cX4_copyFrom 91 = .ok (.aload_n 1, 1) := by decide +kernel
theorem dX4_copyFrom_92 : decode cX4_copyFrom 92 = .ok (.getfield 49, 3) := by decide +kernel
theorem dX4_copyFrom_95 : decode cX4_copyFrom 95 = .ok (.putfield 49, 3) := by decide +kernel
theorem dX4_copyFrom_98 : decode cX4_copyFrom 98 = .ok (.aload_n 0, 1) := by decide +kernel
theorem dX4_copyFrom_99 : decode cX4_copyFrom 99 = .ok (.aload_n 1, 1) := by decide +kernel
theorem dX4_copyFrom_100 : decode cX4_copyFrom 100 = .ok (.getfield 52, 3) := by decide +kernel
theorem dX4_copyFrom_103 : decode cX4_copyFrom 103 = .ok (.putfield 52, 3) := by decide +kernel
theorem dX4_copyFrom_106 : decode cX4_copyFrom 106 = .ok (.aload_n 1, 1) := by decide +kernel
theorem dX4_copyFrom_107 : decode cX4_copyFrom 107 = .ok (.getfield 30, 3) := by decide +kernel
theorem dX4_copyFrom_110 : decode cX4_copyFrom 110 = .ok (.aload_n 0, 1) := by decide +kernel
theorem dX4_copyFrom_111 : decode cX4_copyFrom 111 = .ok (.getfield 30, 3) := by decide +kernel
theorem dX4_copyFrom_114 : decode cX4_copyFrom 114 = .ok (.invokestatic 58, 3) := by decide +kernel
theorem dX4_copyFrom_117 : decode cX4_copyFrom 117 = .ok (.aload_n 1, 1) := by decide +kernel
theorem dX4_copyFrom_118 : decode cX4_copyFrom 118 = .ok (.getfield 33, 3) := by decide +kernel
theorem dX4_copyFrom_121 : decode cX4_copyFrom 121 = .ok (.aload_n 0, 1) := by decide +kernel
theorem dX4_copyFrom_122 : decode cX4_copyFrom 122 = .ok (.getfield 33, 3) := by decide +kernel
theorem dX4_copyFrom_125 : decode cX4_copyFrom 125 = .ok (.invokestatic 58, 3) := by decide +kernel
theorem dX4_copyFrom_128 : decode cX4_copyFrom 128 = .ok (.aload_n 0, 1) := by decide +kernel
theorem dX4_copyFrom_129 : decode cX4_copyFrom 129 = .ok (.aload_n 1, 1) := by decide +kernel
theorem dX4_copyFrom_130 : decode cX4_copyFrom 130 = .ok (.getfield 55, 3) := by decide +kernel
theorem dX4_copyFrom_133 : decode cX4_copyFrom 133 = .ok (.putfield 55, 3) := by decide +kernel
theorem dX4_copyFrom_136 : decode cX4_copyFrom 136 = .ok (.return_, 1) := by decide +kernel
theorem dX4_copyRow_0 : decode cX4_copyRow 0 = .ok (.iconst 0, 1) := by decide +kernel
theorem dX4_copyRow_1 : decode cX4_copyRow 1 = .ok (.istore_n 2, 1) := by decide +kernel
theorem dX4_copyRow_2 : decode cX4_copyRow 2 = .ok (.iload_n 2, 1) := by decide +kernel
theorem dX4_copyRow_3 : decode cX4_copyRow 3 = .ok (.aload_n 0, 1) := by decide +kernel
theorem dX4_copyRow_4 : decode cX4_copyRow 4 = .ok (.arraylength, 1) := by decide +kernel
theorem dX4_copyRow_5 : decode cX4_copyRow 5 = .ok (.if_icmp .ge 21, 3) := by decide +kernel
theorem dX4_copyRow_8 : decode cX4_copyRow 8 = .ok (.iload_n 2, 1) := by decide +kernel
theorem dX4_copyRow_9 : decode cX4_copyRow 9 = .ok (.aload_n 1, 1) := by decide +kernel
theorem dX4_copyRow_10 : decode cX4_copyRow 10 = .ok (.arraylength, 1) := by decide +kernel
theorem dX4_copyRow_11 : decode cX4_copyRow 11 = .ok (.if_icmp .ge 15, 3) := by decide +kernel
theorem dX4_copyRow_14 : decode cX4_copyRow 14 = .ok (.aload_n 1, 1) := by decide +kernel
theorem dX4_copyRow_15 : decode cX4_copyRow 15 = .ok (.iload_n 2, 1) := by decide +kernel
theorem dX4_copyRow_16 : decode cX4_copyRow 16 = .ok (.aload_n 0, 1) := by decide +kernel
theorem dX4_copyRow_17 : decode cX4_copyRow 17 = .ok (.iload_n 2, 1) := by decide +kernel
theorem dX4_copyRow_18 : decode cX4_copyRow 18 = .ok (.iaload, 1) := by decide +kernel
theorem dX4_copyRow_19 : decode cX4_copyRow 19 = .ok (.iastore, 1) := by decide +kernel
theorem dX4_copyRow_20 : decode cX4_copyRow 20 = .ok (.iinc 2 1, 3) := by decide +kernel
theorem dX4_copyRow_23 : decode cX4_copyRow 23 = .ok (.goto (-21), 3) := by decide +kernel
theorem dX4_copyRow_26 : decode cX4_copyRow 26 = .ok (.return_, 1) := by decide +kernel
theorem dX4_addBolt_0 : decode cX4_addBolt 0 = .ok (.iload_n 1, 1) := by decide +kernel
theorem dX4_addBolt_1 : decode cX4_addBolt 1 = .ok (.ifCond .lt 31, 3) := by decide +kernel
theorem dX4_addBolt_4 : decode cX4_addBolt 4 = .ok (.iload_n 1, 1) := by decide +kernel
theorem dX4_addBolt_5 : decode cX4_addBolt 5 = .ok (.aload_n 0, 1) := by decide +kernel
theorem dX4_addBolt_6 : decode cX4_addBolt 6 = .ok (.getfield 27, 3) := by decide +kernel
theorem dX4_addBolt_9 : decode cX4_addBolt 9 = .ok (.arraylength, 1) := by decide +kernel
theorem dX4_addBolt_10 : decode cX4_addBolt 10 = .ok (.if_icmp .ge 22, 3) := by decide +kernel
theorem dX4_addBolt_13 : decode cX4_addBolt 13 = .ok (.iload_n 2, 1) := by decide +kernel
theorem dX4_addBolt_14 : decode cX4_addBolt 14 = .ok (.ifCond .lt 18, 3) := by decide +kernel
theorem dX4_addBolt_17 : decode cX4_addBolt 17 = .ok (.iload_n 2, 1) := by decide +kernel
theorem dX4_addBolt_18 : decode cX4_addBolt 18 = .ok (.iconst 3, 1) := by decide +kernel
theorem dX4_addBolt_19 : decode cX4_addBolt 19 = .ok (.if_icmp .gt 13, 3) := by decide +kernel
theorem dX4_addBolt_22 : decode cX4_addBolt 22 = .ok (.iload_n 3, 1) := by decide +kernel
theorem dX4_addBolt_23 : decode cX4_addBolt 23 = .ok (.ifCond .lt 9, 3) := by decide +kernel
theorem dX4_addBolt_26 : decode cX4_addBolt 26 = .ok (.iload_n 3, 1) := by decide +kernel
theorem dX4_addBolt_27 : decode cX4_addBolt 27 = .ok (.bipush 99, 2) := by decide +kernel
theorem dX4_addBolt_29 : decode cX4_addBolt 29 = .ok (.if_icmp .le 6, 3) := by decide +kernel
theorem dX4_addBolt_32 : decode cX4_addBolt 32 = .ok (.bipush (-2), 2) := by decide +kernel
theorem dX4_addBolt_34 : decode cX4_addBolt 34 = .ok (.ireturn, 1) := by decide +kernel
theorem dX4_addBolt_35 : decode cX4_addBolt 35 = .ok (.aload_n 0, 1) := by decide +kernel
theorem dX4_addBolt_36 : decode cX4_addBolt 36 = .ok (.getfield 39, 3) := by decide +kernel
theorem dX4_addBolt_39 : decode cX4_addBolt 39 = .ok (.bipush 12, 2) := by decide +kernel
theorem dX4_addBolt_41 : decode cX4_addBolt 41 = .ok (.if_icmp .lt 6, 3) := by decide +kernel
theorem dX4_addBolt_44 : decode cX4_addBolt 44 = .ok (.bipush (-4), 2) := by decide +kernel
theorem dX4_addBolt_46 : decode cX4_addBolt 46 = .ok (.ireturn, 1) := by decide +kernel
theorem dX4_addBolt_47 : decode cX4_addBolt 47 = .ok (.aload_n 0, 1) := by decide +kernel
theorem dX4_addBolt_48 : decode cX4_addBolt 48 = .ok (.getfield 9, 3) := by decide +kernel
theorem dX4_addBolt_51 : decode cX4_addBolt 51 = .ok (.aload_n 0, 1) := by decide +kernel
theorem dX4_addBolt_52 : decode cX4_addBolt 52 = .ok (.getfield 39, 3) := by decide +kernel
theorem dX4_addBolt_55 : decode cX4_addBolt 55 = .ok (.iload_n 1, 1) := by decide +kernel
theorem dX4_addBolt_56 : decode cX4_addBolt 56 = .ok (.iastore, 1) := by decide +kernel
theorem dX4_addBolt_57 : decode cX4_addBolt 57 = .ok (.aload_n 0, 1) := by decide +kernel
theorem dX4_addBolt_58 : decode cX4_addBolt 58 = .ok (.getfield 15, 3) := by decide +kernel
theorem dX4_addBolt_61 : decode cX4_addBolt 61 = .ok (.aload_n 0, 1) := by decide +kernel
theorem dX4_addBolt_62 : decode cX4_addBolt 62 = .ok (.getfield 39, 3) := by decide +kernel
theorem dX4_addBolt_65 : decode cX4_addBolt 65 = .ok (.iload_n 2, 1) := by decide +kernel
theorem dX4_addBolt_66 : decode cX4_addBolt 66 = .ok (.iastore, 1) := by decide +kernel
theorem dX4_addBolt_67 : decode cX4_addBolt 67 = .ok (.aload_n 0, 1) := by decide +kernel
theorem dX4_addBolt_68 : decode cX4_addBolt 68 = .ok (.getfield 18, 3) := by decide +kernel
theorem dX4_addBolt_71 : decode cX4_addBolt 71 = .ok (.aload_n 0, 1) := by decide +kernel
theorem dX4_addBolt_72 : decode cX4_addBolt 72 = .ok (.getfield 39, 3) := by decide +kernel
theorem dX4_addBolt_75 : decode cX4_addBolt 75 = .ok (.iload_n 3, 1) := by decide +kernel
theorem dX4_addBolt_76 : decode cX4_addBolt 76 = .ok (.iastore, 1) := by decide +kernel
theorem dX4_addBolt_77 : decode cX4_addBolt 77 = .ok (.aload_n 0, 1) := by decide +kernel
theorem dX4_addBolt_78 : decode cX4_addBolt 78 = .ok (.getfield 21, 3) := by decide +kernel
theorem dX4_addBolt_81 : decode cX4_addBolt 81 = .ok (.aload_n 0, 1) := by decide +kernel
theorem dX4_addBolt_82 : decode cX4_addBolt 82 = .ok (.getfield 39, 3) := by decide +kernel
theorem dX4_addBolt_85 : decode cX4_addBolt 85 = .ok (.iconst (-1), 1) := by decide +kernel
theorem dX4_addBolt_86 : decode cX4_addBolt 86 = .ok (.iastore, 1) := by decide +kernel
theorem dX4_addBolt_87 : decode cX4_addBolt 87 = .ok (.aload_n 0, 1) := by decide +kernel
theorem dX4_addBolt_88 : decode cX4_addBolt 88 = .ok (.dup, 1) := by decide +kernel
theorem dX4_addBolt_89 : decode cX4_addBolt 89 = .ok (.getfield 39, 3) := by decide +kernel
theorem dX4_addBolt_92 : decode cX4_addBolt 92 = .ok (.iconst 1, 1) := by decide +kernel
theorem dX4_addBolt_93 : decode cX4_addBolt 93 = .ok (.iadd, 1) := by decide +kernel
theorem dX4_addBolt_94 : decode cX4_addBolt 94 = .ok (.putfield 39, 3) := by decide +kernel
theorem dX4_addBolt_97 : decode cX4_addBolt 97 = .ok (.aload_n 0, 1) := by decide +kernel
theorem dX4_addBolt_98 : decode cX4_addBolt 98 = .ok (.iconst 0, 1) := by decide +kernel
theorem dX4_addBolt_99 : decode cX4_addBolt 99 = .ok (.putfield 55, 3) := by decide +kernel
theorem dX4_addBolt_102 : decode cX4_addBolt 102 = .ok (.aload_n 0, 1) := by decide +kernel
theorem dX4_addBolt_103 : decode cX4_addBolt 103 = .ok (.getfield 39, 3) := by decide +kernel
theorem dX4_addBolt_106 : decode cX4_addBolt 106 = .ok (.iconst 1, 1) := by decide +kernel
theorem dX4_addBolt_107 : decode cX4_addBolt 107 = .ok (.isub, 1) := by decide +kernel
theorem dX4_addBolt_108 : decode cX4_addBolt 108 = .ok (.ireturn, 1) := by decide +kernel
theorem dX4_addMoth_0 : decode cX4_addMoth 0 = .ok (.iload_n 1, 1) := by decide +kernel
theorem dX4_addMoth_1 : decode cX4_addMoth 1 = .ok (.ifCond .lt 8, 3) := by decide +kernel
theorem dX4_addMoth_4 : decode cX4_addMoth 4 = .ok (.iload_n 1, 1) := by decide +kernel
theorem dX4_addMoth_5 : decode cX4_addMoth 5 = .ok (.iconst 5, 1) := by decide +kernel
theorem dX4_addMoth_6 : decode cX4_addMoth 6 = .ok (.if_icmp .le 6, 3) := by decide +kernel
theorem dX4_addMoth_9 : decode cX4_addMoth 9 = .ok (.bipush (-2), 2) := by decide +kernel
theorem dX4_addMoth_11 : decode cX4_addMoth 11 = .ok (.ireturn, 1) := by decide +kernel
theorem dX4_addMoth_12 : decode cX4_addMoth 12 = .ok (.aload_n 0, 1) := by decide +kernel
theorem dX4_addMoth_13 : decode cX4_addMoth 13 = .ok (.getfield 43, 3) := by decide +kernel
theorem dX4_addMoth_16 : decode cX4_addMoth 16 = .ok (.iconst 4, 1) := by decide +kernel
theorem dX4_addMoth_17 : decode cX4_addMoth 17 = .ok (.if_icmp .lt 6, 3) := by decide +kernel
theorem dX4_addMoth_20 : decode cX4_addMoth 20 = .ok (.bipush (-4), 2) := by decide +kernel
theorem dX4_addMoth_22 : decode cX4_addMoth 22 = .ok (.ireturn, 1) := by decide +kernel
theorem dX4_addMoth_23 : decode cX4_addMoth 23 = .ok (.aload_n 0, 1) := by decide +kernel
theorem dX4_addMoth_24 : decode cX4_addMoth 24 = .ok (.getfield 24, 3) := by decide +kernel
theorem dX4_addMoth_27 : decode cX4_addMoth 27 = .ok (.aload_n 0, 1) := by decide +kernel
theorem dX4_addMoth_28 : decode cX4_addMoth 28 = .ok (.getfield 43, 3) := by decide +kernel
theorem dX4_addMoth_31 : decode cX4_addMoth 31 = .ok (.iload_n 1, 1) := by decide +kernel
theorem dX4_addMoth_32 : decode cX4_addMoth 32 = .ok (.iastore, 1) := by decide +kernel
theorem dX4_addMoth_33 : decode cX4_addMoth 33 = .ok (.aload_n 0, 1) := by decide +kernel
theorem dX4_addMoth_34 : decode cX4_addMoth 34 = .ok (.dup, 1) := by decide +kernel
theorem dX4_addMoth_35 : decode cX4_addMoth 35 = .ok (.getfield 43, 3) := by decide +kernel
theorem dX4_addMoth_38 : decode cX4_addMoth 38 = .ok (.iconst 1, 1) := by decide +kernel
theorem dX4_addMoth_39 : decode cX4_addMoth 39 = .ok (.iadd, 1) := by decide +kernel
theorem dX4_addMoth_40 : decode cX4_addMoth 40 = .ok (.putfield 43, 3) := by decide +kernel
theorem dX4_addMoth_43 : decode cX4_addMoth 43 = .ok (.aload_n 0, 1) := by decide +kernel
theorem dX4_addMoth_44 : decode cX4_addMoth 44 = .ok (.iconst 0, 1) := by decide +kernel
theorem dX4_addMoth_45 : decode cX4_addMoth 45 = .ok (.putfield 55, 3) := by decide +kernel
theorem dX4_addMoth_48 : decode cX4_addMoth 48 = .ok (.aload_n 0, 1) := by decide +kernel
theorem dX4_addMoth_49 : decode cX4_addMoth 49 = .ok (.getfield 43, 3) := by decide +kernel
theorem dX4_addMoth_52 : decode cX4_addMoth 52 = .ok (.iconst 1, 1) := by decide +kernel
theorem dX4_addMoth_53 : decode cX4_addMoth 53 = .ok (.isub, 1) := by decide +kernel
theorem dX4_addMoth_54 : decode cX4_addMoth 54 = .ok (.ireturn, 1) := by decide +kernel
theorem dX4_setTaste_0 : decode cX4_setTaste 0 = .ok (.iload_n 1, 1) := by decide +kernel
theorem dX4_setTaste_1 : decode cX4_setTaste 1 = .ok (.ifCond .lt 22, 3) := by decide +kernel
theorem dX4_setTaste_4 : decode cX4_setTaste 4 = .ok (.iload_n 1, 1) := by decide +kernel
theorem dX4_setTaste_5 : decode cX4_setTaste 5 = .ok (.aload_n 0, 1) := by decide +kernel
theorem dX4_setTaste_6 : decode cX4_setTaste 6 = .ok (.getfield 27, 3) := by decide +kernel
theorem dX4_setTaste_9 : decode cX4_setTaste 9 = .ok (.arraylength, 1) := by decide +kernel
theorem dX4_setTaste_10 : decode cX4_setTaste 10 = .ok (.if_icmp .ge 13, 3) := by decide +kernel
theorem dX4_setTaste_13 : decode cX4_setTaste 13 = .ok (.iload_n 2, 1) := by decide +kernel
theorem dX4_setTaste_14 : decode cX4_setTaste 14 = .ok (.ifCond .lt 9, 3) := by decide +kernel
theorem dX4_setTaste_17 : decode cX4_setTaste 17 = .ok (.iload_n 2, 1) := by decide +kernel
theorem dX4_setTaste_18 : decode cX4_setTaste 18 = .ok (.bipush 9, 2) := by decide +kernel
theorem dX4_setTaste_20 : decode cX4_setTaste 20 = .ok (.if_icmp .le 6, 3) := by decide +kernel
theorem dX4_setTaste_23 : decode cX4_setTaste 23 = .ok (.bipush (-2), 2) := by decide +kernel
theorem dX4_setTaste_25 : decode cX4_setTaste 25 = .ok (.ireturn, 1) := by decide +kernel
theorem dX4_setTaste_26 : decode cX4_setTaste 26 = .ok (.aload_n 0, 1) := by decide +kernel
theorem dX4_setTaste_27 : decode cX4_setTaste 27 = .ok (.getfield 27, 3) := by decide +kernel
theorem dX4_setTaste_30 : decode cX4_setTaste 30 = .ok (.iload_n 1, 1) := by decide +kernel
theorem dX4_setTaste_31 : decode cX4_setTaste 31 = .ok (.iaload, 1) := by decide +kernel
theorem dX4_setTaste_32 : decode cX4_setTaste 32 = .ok (.istore_n 3, 1) := by decide +kernel
theorem dX4_setTaste_33 : decode cX4_setTaste 33 = .ok (.aload_n 0, 1) := by decide +kernel
theorem dX4_setTaste_34 : decode cX4_setTaste 34 = .ok (.getfield 27, 3) := by decide +kernel
theorem dX4_setTaste_37 : decode cX4_setTaste 37 = .ok (.iload_n 1, 1) := by decide +kernel
theorem dX4_setTaste_38 : decode cX4_setTaste 38 = .ok (.iload_n 2, 1) := by decide +kernel
theorem dX4_setTaste_39 : decode cX4_setTaste 39 = .ok (.iastore, 1) := by decide +kernel
theorem dX4_setTaste_40 : decode cX4_setTaste 40 = .ok (.iload_n 3, 1) := by decide +kernel
theorem dX4_setTaste_41 : decode cX4_setTaste 41 = .ok (.ireturn, 1) := by decide +kernel
set_option maxRecDepth 20000 in
theorem ggX4_setTerm_X4_setEach : GoodIn wsX4_setTerm wsX4_setEach := goodIn_r _ [5, 6, 7, 18, 19, 20, 21, 22, 23, 24, 25, 26, 27, 28, 29, 30, 31] (by decide +kernel) (by decide +kernel)
set_option maxRecDepth 20000 in
theorem gX4_setTerm_X4_setEach : GoodIn wsX4_setTerm (wsV RX4 64 RX4 yX4_setEach wsX4_setEach) := goodIn_app (goodIn_of _ (by decide +kernel)) ggX4_setTerm_X4_setEach
set_option maxRecDepth 20000 in
theorem ggX4_setTerm_X4_setWant : GoodIn wsX4_setTerm wsX4_setWant := goodIn_r _ [11, 12, 18, 19, 20, 21, 22, 23, 24, 25, 26, 27, 28, 29, 30, 31] (by decide +kernel) (by decide +kernel)
set_option maxRecDepth 20000 in
theorem gX4_setTerm_X4_setWant : GoodIn wsX4_setTerm (wsV RX4 68 RX4 yX4_setWant wsX4_setWant) := goodIn_app (goodIn_of _ (by decide +kernel)) ggX4_setTerm_X4_setWant
set_option maxRecDepth 20000 in
theorem ggX4_setTerm_X4_setMood : GoodIn wsX4_setTerm wsX4_setMood := goodIn_r _ [16, 17, 7, 18, 19, 20, 21, 22, 23, 24, 25, 26, 27, 28, 29, 30, 31] (by decide +kernel) (by decide +kernel)
set_option maxRecDepth 20000 in
theorem gX4_setTerm_X4_setMood : GoodIn wsX4_setTerm (wsV RX4 71 RX4 yX4_setMood wsX4_setMood) := goodIn_app (goodIn_of _ (by decide +kernel)) ggX4_setTerm_X4_setMood
theorem dX4_setTerm_0 : decode cX4_setTerm 0 = .ok (.iload_n 1, 1) := by decide +kernel
theorem dX4_setTerm_1 : decode cX4_setTerm 1 = .ok (.tableswitch 45 0 2 #[27, 33, 39], 27) := by decide +kernel
theorem dX4_setTerm_28 : decode cX4_setTerm 28 = .ok (.aload_n 0, 1) := by decide +kernel
theorem dX4_setTerm_29 : decode cX4_setTerm 29 = .ok (.iload_n 2, 1) := by decide +kernel
theorem dX4_setTerm_30 : decode cX4_setTerm 30 = .ok (.invokevirtual 64, 3) := by decide +kernel
theorem dX4_setTerm_33 : decode cX4_setTerm 33 = .ok (.ireturn, 1) := by decide +kernel
theorem dX4_setTerm_34 : decode cX4_setTerm 34 = .ok (.aload_n 0, 1) := by decide +kernel
theorem dX4_setTerm_35 : decode cX4_setTerm 35 = .ok (.iload_n 2, 1) := by decide +kernel
theorem dX4_setTerm_36 : decode cX4_setTerm 36 = .ok (.invokevirtual 68, 3) := by decide +kernel
theorem dX4_setTerm_39 : decode cX4_setTerm 39 = .ok (.ireturn, 1) := by decide +kernel
theorem dX4_setTerm_40 : decode cX4_setTerm 40 = .ok (.aload_n 0, 1) := by decide +kernel
theorem dX4_setTerm_41 : decode cX4_setTerm 41 = .ok (.iload_n 2, 1) := by decide +kernel
theorem dX4_setTerm_42 : decode cX4_setTerm 42 = .ok (.invokevirtual 71, 3) := by decide +kernel
theorem dX4_setTerm_45 : decode cX4_setTerm 45 = .ok (.ireturn, 1) := by decide +kernel
theorem dX4_setTerm_46 : decode cX4_setTerm 46 = .ok (.bipush (-2), 2) := by decide +kernel
theorem dX4_setTerm_48 : decode cX4_setTerm 48 = .ok (.ireturn, 1) := by decide +kernel
theorem dX4_setEach_0 : decode cX4_setEach 0 = .ok (.iload_n 1, 1) := by decide +kernel
theorem dX4_setEach_1 : decode cX4_setEach 1 = .ok (.iconst 2, 1) := by decide +kernel
theorem dX4_setEach_2 : decode cX4_setEach 2 = .ok (.if_icmp .lt 9, 3) := by decide +kernel
theorem dX4_setEach_5 : decode cX4_setEach 5 = .ok (.iload_n 1, 1) := by decide +kernel
theorem dX4_setEach_6 : decode cX4_setEach 6 = .ok (.bipush 6, 2) := by decide +kernel
theorem dX4_setEach_8 : decode cX4_setEach 8 = .ok (.if_icmp .le 6, 3) := by decide +kernel
theorem dX4_setEach_11 : decode cX4_setEach 11 = .ok (.bipush (-2), 2) := by decide +kernel
theorem dX4_setEach_13 : decode cX4_setEach 13 = .ok (.ireturn, 1) := by decide +kernel
theorem dX4_setEach_14 : decode cX4_setEach 14 = .ok (.aload_n 0, 1) := by decide +kernel
theorem dX4_setEach_15 : decode cX4_setEach 15 = .ok (.getfield 46, 3) := by decide +kernel
theorem dX4_setEach_18 : decode cX4_setEach 18 = .ok (.istore_n 2, 1) := by decide +kernel
theorem dX4_setEach_19 : decode cX4_setEach 19 = .ok (.aload_n 0, 1) := by decide +kernel
theorem dX4_setEach_20 : decode cX4_setEach 20 = .ok (.iload_n 1, 1) := by decide +kernel
theorem dX4_setEach_21 : decode cX4_setEach 21 = .ok (.putfield 46, 3) := by decide +kernel
theorem dX4_setEach_24 : decode cX4_setEach 24 = .ok (.aload_n 0, 1) := by decide +kernel
theorem dX4_setEach_25 : decode cX4_setEach 25 = .ok (.iconst 0, 1) := by decide +kernel
theorem dX4_setEach_26 : decode cX4_setEach 26 = .ok (.putfield 55, 3) := by decide +kernel
theorem dX4_setEach_29 : decode cX4_setEach 29 = .ok (.iload_n 2, 1) := by decide +kernel
theorem dX4_setEach_30 : decode cX4_setEach 30 = .ok (.ireturn, 1) := by decide +kernel
theorem dX4_setWant_0 : decode cX4_setWant 0 = .ok (.iload_n 1, 1) := by decide +kernel
theorem dX4_setWant_1 : decode cX4_setWant 1 = .ok (.ifCond .lt 9, 3) := by decide +kernel
theorem dX4_setWant_4 : decode cX4_setWant 4 = .ok (.iload_n 1, 1) := by decide +kernel
theorem dX4_setWant_5 : decode cX4_setWant 5 = .ok (.bipush 99, 2) := by decide +kernel
theorem dX4_setWant_7 : decode cX4_setWant 7 = .ok (.if_icmp .le 6, 3) := by decide +kernel
theorem dX4_setWant_10 : decode cX4_setWant 10 = .ok (.bipush (-2), 2) := by decide +kernel
theorem dX4_setWant_12 : decode cX4_setWant 12 = .ok (.ireturn, 1) := by decide +kernel
theorem dX4_setWant_13 : decode cX4_setWant 13 = .ok (.aload_n 0, 1) := by decide +kernel
theorem dX4_setWant_14 : decode cX4_setWant 14 = .ok (.getfield 49, 3) := by decide +kernel
theorem dX4_setWant_17 : decode cX4_setWant 17 = .ok (.istore_n 2, 1) := by decide +kernel
theorem dX4_setWant_18 : decode cX4_setWant 18 = .ok (.aload_n 0, 1) := by decide +kernel
theorem dX4_setWant_19 : decode cX4_setWant 19 = .ok (.iload_n 1, 1) := by decide +kernel
theorem dX4_setWant_20 : decode cX4_setWant 20 = .ok (.putfield 49, 3) := by decide +kernel
theorem dX4_setWant_23 : decode cX4_setWant 23 = .ok (.iload_n 2, 1) := by decide +kernel
theorem dX4_setWant_24 : decode cX4_setWant 24 = .ok (.ireturn, 1) := by decide +kernel
theorem dX4_setMood_0 : decode cX4_setMood 0 = .ok (.iload_n 1, 1) := by decide +kernel
theorem dX4_setMood_1 : decode cX4_setMood 1 = .ok (.iconst 1, 1) := by decide +kernel
theorem dX4_setMood_2 : decode cX4_setMood 2 = .ok (.if_icmp .lt 9, 3) := by decide +kernel
theorem dX4_setMood_5 : decode cX4_setMood 5 = .ok (.iload_n 1, 1) := by decide +kernel
theorem dX4_setMood_6 : decode cX4_setMood 6 = .ok (.bipush 9, 2) := by decide +kernel
theorem dX4_setMood_8 : decode cX4_setMood 8 = .ok (.if_icmp .le 6, 3) := by decide +kernel
theorem dX4_setMood_11 : decode cX4_setMood 11 = .ok (.bipush (-2), 2) := by decide +kernel
theorem dX4_setMood_13 : decode cX4_setMood 13 = .ok (.ireturn, 1) := by decide +kernel
theorem dX4_setMood_14 : decode cX4_setMood 14 = .ok (.aload_n 0, 1) := by decide +kernel
theorem dX4_setMood_15 : decode cX4_setMood 15 = .ok (.getfield 52, 3) := by decide +kernel
theorem dX4_setMood_18 : decode cX4_setMood 18 = .ok (.istore_n 2, 1) := by decide +kernel
theorem dX4_setMood_19 : decode cX4_setMood 19 = .ok (.aload_n 0, 1) := by decide +kernel
theorem dX4_setMood_20 : decode cX4_setMood 20 = .ok (.iload_n 1, 1) := by decide +kernel
theorem dX4_setMood_21 : decode cX4_setMood 21 = .ok (.putfield 52, 3) := by decide +kernel
theorem dX4_setMood_24 : decode cX4_setMood 24 = .ok (.aload_n 0, 1) := by decide +kernel
theorem dX4_setMood_25 : decode cX4_setMood 25 = .ok (.iconst 0, 1) := by decide +kernel
theorem dX4_setMood_26 : decode cX4_setMood 26 = .ok (.putfield 55, 3) := by decide +kernel
theorem dX4_setMood_29 : decode cX4_setMood 29 = .ok (.iload_n 2, 1) := by decide +kernel
theorem dX4_setMood_30 : decode cX4_setMood 30 = .ok (.ireturn, 1) := by decide +kernel
set_option maxRecDepth 20000 in
theorem ggX4_setHoles_X4_hasBolt : GoodIn wsX4_setHoles wsX4_hasBolt := goodIn_r _ [6, 7, 8, 9, 10, 11, 12, 13, 14, 15, 16, 17, 18, 19, 20, 21] (by decide +kernel) (by decide +kernel)
set_option maxRecDepth 20000 in
theorem gX4_setHoles_X4_hasBolt : GoodIn wsX4_setHoles (wsV RX4 74 RX4 yX4_hasBolt wsX4_hasBolt) := goodIn_app (goodIn_of _ (by decide +kernel)) ggX4_setHoles_X4_hasBolt
theorem dX4_setHoles_0 : decode cX4_setHoles 0 = .ok (.aload_n 0, 1) := by decide +kernel
theorem dX4_setHoles_1 : decode cX4_setHoles 1 = .ok (.iload_n 1, 1) := by decide +kernel
theorem dX4_setHoles_2 : decode cX4_setHoles 2 = .ok (.invokevirtual 74, 3) := by decide +kernel
theorem dX4_setHoles_5 : decode cX4_setHoles 5 = .ok (.ifCond .eq 14, 3) := by decide +kernel
theorem dX4_setHoles_8 : decode cX4_setHoles 8 = .ok (.iload_n 2, 1) := by decide +kernel
theorem dX4_setHoles_9 : decode cX4_setHoles 9 = .ok (.iconst (-1), 1) := by decide +kernel
theorem dX4_setHoles_10 : decode cX4_setHoles 10 = .ok (.if_icmp .lt 9, 3) := by decide +kernel
theorem dX4_setHoles_13 : decode cX4_setHoles 13 = .ok (.iload_n 2, 1) := by decide +kernel
theorem dX4_setHoles_14 : decode cX4_setHoles 14 = .ok (.bipush 99, 2) := by decide +kernel
theorem dX4_setHoles_16 : decode cX4_setHoles 16 = .ok (.if_icmp .le 6, 3) := by decide +kernel
theorem dX4_setHoles_19 : decode cX4_setHoles 19 = .ok (.bipush (-10), 2) := by decide +kernel
theorem dX4_setHoles_21 : decode cX4_setHoles 21 = .ok (.ireturn, 1) := by decide +kernel
theorem dX4_setHoles_22 : decode cX4_setHoles 22 = .ok (.aload_n 0, 1) := by decide +kernel
theorem dX4_setHoles_23 : decode cX4_setHoles 23 = .ok (.getfield 21, 3) := by decide +kernel
theorem dX4_setHoles_26 : decode cX4_setHoles 26 = .ok (.iload_n 1, 1) := by decide +kernel
theorem dX4_setHoles_27 : decode cX4_setHoles 27 = .ok (.iaload, 1) := by decide +kernel
theorem dX4_setHoles_28 : decode cX4_setHoles 28 = .ok (.istore_n 3, 1) := by decide +kernel
theorem dX4_setHoles_29 : decode cX4_setHoles 29 = .ok (.aload_n 0, 1) := by decide +kernel
theorem dX4_setHoles_30 : decode cX4_setHoles 30 = .ok (.getfield 21, 3) := by decide +kernel
theorem dX4_setHoles_33 : decode cX4_setHoles 33 = .ok (.iload_n 1, 1) := by decide +kernel
theorem dX4_setHoles_34 : decode cX4_setHoles 34 = .ok (.iload_n 2, 1) := by decide +kernel
theorem dX4_setHoles_35 : decode cX4_setHoles 35 = .ok (.iastore, 1) := by decide +kernel
theorem dX4_setHoles_36 : decode cX4_setHoles 36 = .ok (.iload_n 3, 1) := by decide +kernel
theorem dX4_setHoles_37 : decode cX4_setHoles 37 = .ok (.ireturn, 1) := by decide +kernel
theorem dX4_hasBolt_0 : decode cX4_hasBolt 0 = .ok (.iload_n 1, 1) := by decide +kernel
theorem dX4_hasBolt_1 : decode cX4_hasBolt 1 = .ok (.ifCond .lt 15, 3) := by decide +kernel
theorem dX4_hasBolt_4 : decode cX4_hasBolt 4 = .ok (.iload_n 1, 1) := by decide +kernel
theorem dX4_hasBolt_5 : decode cX4_hasBolt 5 = .ok (.aload_n 0, 1) := by decide +kernel
theorem dX4_hasBolt_6 : decode cX4_hasBolt 6 = .ok (.getfield 39, 3) := by decide +kernel
theorem dX4_hasBolt_9 : decode cX4_hasBolt 9 = .ok (.if_icmp .ge 7, 3) := by decide +kernel
theorem dX4_hasBolt_12 : decode cX4_hasBolt 12 = .ok (.iconst 1, 1) := by decide +kernel
theorem dX4_hasBolt_13 : decode cX4_hasBolt 13 = .ok (.goto 4, 3) := by decide +kernel
theorem dX4_hasBolt_16 : decode cX4_hasBolt 16 = .ok (.iconst 0, 1) := by decide +kernel
theorem dX4_hasBolt_17 : decode cX4_hasBolt 17 = .ok (.ireturn, 1) := by decide +kernel
theorem dX4_hasMoth_0 : decode cX4_hasMoth 0 = .ok (.iload_n 1, 1) := by decide +kernel
theorem dX4_hasMoth_1 : decode cX4_hasMoth 1 = .ok (.ifCond .lt 15, 3) := by decide +kernel
theorem dX4_hasMoth_4 : decode cX4_hasMoth 4 = .ok (.iload_n 1, 1) := by decide +kernel
theorem dX4_hasMoth_5 : decode cX4_hasMoth 5 = .ok (.aload_n 0, 1) := by decide +kernel
theorem dX4_hasMoth_6 : decode cX4_hasMoth 6 = .ok (.getfield 43, 3) := by decide +kernel
theorem dX4_hasMoth_9 : decode cX4_hasMoth 9 = .ok (.if_icmp .ge 7, 3) := by decide +kernel
theorem dX4_hasMoth_12 : decode cX4_hasMoth 12 = .ok (.iconst 1, 1) := by decide +kernel
theorem dX4_hasMoth_13 : decode cX4_hasMoth 13 = .ok (.goto 4, 3) := by decide +kernel
theorem dX4_hasMoth_16 : decode cX4_hasMoth 16 = .ok (.iconst 0, 1) := by decide +kernel
theorem dX4_hasMoth_17 : decode cX4_hasMoth 17 = .ok (.ireturn, 1) := by decide +kernel
set_option maxRecDepth 20000 in
theorem ggX4_groups_X4_groupsBy : GoodIn wsX4_groups wsX4_groupsBy := goodIn_r _ [6, 7, 8, 9, 10, 11, 12, 13, 14, 15, 16, 17, 18, 19, 20, 21] (by decide +kernel) (by decide +kernel)
set_option maxRecDepth 20000 in
theorem gX4_groups_X4_groupsBy : GoodIn wsX4_groups (wsV RX4 78 RX4 yX4_groupsBy wsX4_groupsBy) := goodIn_app (goodIn_of _ (by decide +kernel)) ggX4_groups_X4_groupsBy
theorem dX4_groups_0 : decode cX4_groups 0 = .ok (.aload_n 0, 1) := by decide +kernel
theorem dX4_groups_1 : decode cX4_groups 1 = .ok (.aload_n 0, 1) := by decide +kernel
theorem dX4_groups_2 : decode cX4_groups 2 = .ok (.getfield 46, 3) := by decide +kernel
theorem dX4_groups_5 : decode cX4_groups 5 = .ok (.invokevirtual 78, 3) := by decide +kernel
theorem dX4_groups_8 : decode cX4_groups 8 = .ok (.ireturn, 1) := by decide +kernel
theorem dX4_groupsBy_0 : decode cX4_groupsBy 0 = .ok (.iload_n 1, 1) := by decide +kernel
theorem dX4_groupsBy_1 : decode cX4_groupsBy 1 = .ok (.ifCond .le 16, 3) := by decide +kernel
theorem dX4_groupsBy_4 : decode cX4_groupsBy 4 = .ok (.aload_n 0, 1) := by decide +kernel
theorem dX4_groupsBy_5 : decode cX4_groupsBy 5 = .ok (.getfield 39, 3) := by decide +kernel
theorem dX4_groupsBy_8 : decode cX4_groupsBy 8 = .ok (.iload_n 1, 1) := by decide +kernel
theorem dX4_groupsBy_9 : decode cX4_groupsBy 9 = .ok (.iadd, 1) := by decide +kernel
theorem dX4_groupsBy_10 : decode cX4_groupsBy 10 = .ok (.iconst 1, 1) := by decide +kernel
theorem dX4_groupsBy_11 : decode cX4_groupsBy 11 = .ok (.isub, 1) := by decide +kernel
theorem dX4_groupsBy_12 : decode cX4_groupsBy 12 = .ok (.iload_n 1, 1) := by decide +kernel
theorem dX4_groupsBy_13 : decode cX4_groupsBy 13 = .ok (.idiv, 1) := by decide +kernel
theorem dX4_groupsBy_14 : decode cX4_groupsBy 14 = .ok (.goto 4, 3) := by decide +kernel
theorem dX4_groupsBy_17 : decode cX4_groupsBy 17 = .ok (.iconst 0, 1) := by decide +kernel
theorem dX4_groupsBy_18 : decode cX4_groupsBy 18 = .ok (.ireturn, 1) := by decide +kernel
theorem dX4_groupOf_0 : decode cX4_groupOf 0 = .ok (.aload_n 0, 1) := by decide +kernel
theorem dX4_groupOf_1 : decode cX4_groupOf 1 = .ok (.getfield 46, 3) := by decide +kernel
theorem dX4_groupOf_4 : decode cX4_groupOf 4 = .ok (.ifCond .le 12, 3) := by decide +kernel
theorem dX4_groupOf_7 : decode cX4_groupOf 7 = .ok (.iload_n 1, 1) := by decide +kernel
theorem dX4_groupOf_8 : decode cX4_groupOf 8 = .ok (.aload_n 0, 1) := by decide +kernel
theorem dX4_groupOf_9 : decode cX4_groupOf 9 = .ok (.getfield 46, 3) := by decide +kernel
theorem dX4_groupOf_12 : decode cX4_groupOf 12 = .ok (.idiv, 1) := by decide +kernel
theorem dX4_groupOf_13 : decode cX4_groupOf 13 = .ok (.goto 4, 3) := by decide +kernel
theorem dX4_groupOf_16 : decode cX4_groupOf 16 = .ok (.iconst (-1), 1) := by decide +kernel
theorem dX4_groupOf_17 : decode cX4_groupOf 17 = .ok (.ireturn, 1) := by decide +kernel
set_option maxRecDepth 20000 in
theorem ggX4_worthOf_X4_hasBolt : GoodIn wsX4_worthOf wsX4_hasBolt := goodIn_r _ [6, 7, 8, 9, 10, 11, 12, 13, 14, 15, 16, 17, 18, 19, 20, 21] (by decide +kernel) (by decide +kernel)
set_option maxRecDepth 20000 in
theorem gX4_worthOf_X4_hasBolt : GoodIn wsX4_worthOf (wsV RX4 74 RX4 yX4_hasBolt wsX4_hasBolt) := goodIn_app (goodIn_of _ (by decide +kernel)) ggX4_worthOf_X4_hasBolt
theorem dX4_worthOf_0 : decode cX4_worthOf 0 = .ok (.aload_n 0, 1) := by decide +kernel
theorem dX4_worthOf_1 : decode cX4_worthOf 1 = .ok (.iload_n 1, 1) := by decide +kernel
theorem dX4_worthOf_2 : decode cX4_worthOf 2 = .ok (.invokevirtual 74, 3) := by decide +kernel
theorem dX4_worthOf_5 : decode cX4_worthOf 5 = .ok (.ifCond .eq 12, 3) := by decide +kernel
theorem dX4_worthOf_8 : decode cX4_worthOf 8 = .ok (.aload_n 0, 1) := by decide +kernel
theorem dX4_worthOf_9 : decode cX4_worthOf 9 = .ok (.getfield 18, 3) := by decide +kernel
theorem dX4_worthOf_12 : decode cX4_worthOf 12 = .ok (.iload_n 1, 1) := by decide +kernel
theorem dX4_worthOf_13 : decode cX4_worthOf 13 = .ok (.iaload, 1) := by decide +kernel
theorem dX4_worthOf_14 : decode cX4_worthOf 14 = .ok (.goto 4, 3) := by decide +kernel
theorem dX4_worthOf_17 : decode cX4_worthOf 17 = .ok (.iconst 0, 1) := by decide +kernel
theorem dX4_worthOf_18 : decode cX4_worthOf 18 = .ok (.ireturn, 1) := by decide +kernel
set_option maxRecDepth 20000 in
theorem ggX4_hunger_X4_hasBolt : GoodIn wsX4_hunger wsX4_hasBolt := goodIn_r _ [6, 7, 24, 25, 26, 27, 28, 29, 30, 31, 32, 33, 34, 35, 36, 37] (by decide +kernel) (by decide +kernel)
set_option maxRecDepth 20000 in
theorem gX4_hunger_X4_hasBolt : GoodIn wsX4_hunger (wsV RX4 74 RX4 yX4_hasBolt wsX4_hasBolt) := goodIn_app (goodIn_of _ (by decide +kernel)) ggX4_hunger_X4_hasBolt
set_option maxRecDepth 20000 in
theorem ggX4_hunger_X4_hungerAt : GoodIn wsX4_hunger wsX4_hungerAt := goodIn_r _ [11, 12, 13, 14, 15, 16, 17, 5, 18, 19, 2, 3, 4, 6, 7, 20, 21, 22, 23, 24, 25, 26, 27, 28, 29, 30, 31, 32, 33, 34, 35, 36, 37] (by decide +kernel) (by decide +kernel)
set_option maxRecDepth 20000 in
theorem gX4_hunger_X4_hungerAt : GoodIn wsX4_hunger (wsV RX4 81 RX4 yX4_hungerAt wsX4_hungerAt) := goodIn_app (goodIn_of _ (by decide +kernel)) ggX4_hunger_X4_hungerAt
theorem dX4_hunger_0 : decode cX4_hunger 0 = .ok (.aload_n 0, 1) := by decide +kernel
theorem dX4_hunger_1 : decode cX4_hunger 1 = .ok (.iload_n 2, 1) := by decide +kernel
theorem dX4_hunger_2 : decode cX4_hunger 2 = .ok (.invokevirtual 74, 3) := by decide +kernel
theorem dX4_hunger_5 : decode cX4_hunger 5 = .ok (.ifCond .eq 18, 3) := by decide +kernel
theorem dX4_hunger_8 : decode cX4_hunger 8 = .ok (.aload_n 0, 1) := by decide +kernel
theorem dX4_hunger_9 : decode cX4_hunger 9 = .ok (.iload_n 1, 1) := by decide +kernel
theorem dX4_hunger_10 : decode cX4_hunger 10 = .ok (.iload_n 2, 1) := by decide +kernel
theorem dX4_hunger_11 : decode cX4_hunger 11 = .ok (.aload_n 0, 1) := by decide +kernel
theorem dX4_hunger_12 : decode cX4_hunger 12 = .ok (.getfield 15, 3) := by decide +kernel
theorem dX4_hunger_15 : decode cX4_hunger 15 = .ok (.iload_n 2, 1) := by decide +kernel
theorem dX4_hunger_16 : decode cX4_hunger 16 = .ok (.iaload, 1) := by decide +kernel
theorem dX4_hunger_17 : decode cX4_hunger 17 = .ok (.invokevirtual 81, 3) := by decide +kernel
theorem dX4_hunger_20 : decode cX4_hunger 20 = .ok (.goto 4, 3) := by decide +kernel
theorem dX4_hunger_23 : decode cX4_hunger 23 = .ok (.iconst 0, 1) := by decide +kernel
theorem dX4_hunger_24 : decode cX4_hunger 24 = .ok (.ireturn, 1) := by decide +kernel
set_option maxRecDepth 20000 in
theorem ggX4_hungerAt_X4_hasMoth : GoodIn wsX4_hungerAt wsX4_hasMoth := goodIn_r _ [8, 9, 19, 20, 21, 22, 23, 24, 25, 26, 27, 28, 29, 30, 31, 32] (by decide +kernel) (by decide +kernel)
set_option maxRecDepth 20000 in
theorem gX4_hungerAt_X4_hasMoth : GoodIn wsX4_hungerAt (wsV RX4 85 RX4 yX4_hasMoth wsX4_hasMoth) := goodIn_app (goodIn_of _ (by decide +kernel)) ggX4_hungerAt_X4_hasMoth
set_option maxRecDepth 20000 in
theorem ggX4_hungerAt_X4_hasBolt : GoodIn wsX4_hungerAt wsX4_hasBolt := goodIn_r _ [13, 14, 19, 20, 21, 22, 23, 24, 25, 26, 27, 28, 29, 30, 31, 32] (by decide +kernel) (by decide +kernel)
set_option maxRecDepth 20000 in
theorem gX4_hungerAt_X4_hasBolt : GoodIn wsX4_hungerAt (wsV RX4 74 RX4 yX4_hasBolt wsX4_hasBolt) := goodIn_app (goodIn_of _ (by decide +kernel)) ggX4_hungerAt_X4_hasBolt
set_option maxRecDepth 20000 in
theorem ggX4_hungerAt_X0_hunger : GoodIn wsX4_hungerAt wsX0_hunger := goodIn_r _ [18] (by decide +kernel) (by decide +kernel)
set_option maxRecDepth 20000 in
theorem gX4_hungerAt_X0_hunger : GoodIn wsX4_hungerAt (va_wsS RX4 88 yX0_hunger wsX0_hunger) := goodIn_app (goodIn_of _ (by decide +kernel)) ggX4_hungerAt_X0_hunger
theorem dX4_hungerAt_0 : decode cX4_hungerAt 0 = .ok (.aload_n 0, 1) := by decide +kernel
theorem dX4_hungerAt_1 : decode cX4_hungerAt 1 = .ok (.iload_n 1, 1) := by decide +kernel
theorem dX4_hungerAt_2 : decode cX4_hungerAt 2 = .ok (.invokevirtual 85, 3) := by decide +kernel
theorem dX4_hungerAt_5 : decode cX4_hungerAt 5 = .ok (.ifCond .eq 11, 3) := by decide +kernel
theorem dX4_hungerAt_8 : decode cX4_hungerAt 8 = .ok (.aload_n 0, 1) := by decide +kernel
theorem dX4_hungerAt_9 : decode cX4_hungerAt 9 = .ok (.iload_n 2, 1) := by decide +kernel
theorem dX4_hungerAt_10 : decode cX4_hungerAt 10 = .ok (.invokevirtual 74, 3) := by decide +kernel
theorem dX4_hungerAt_13 : decode cX4_hungerAt 13 = .ok (.ifCond .ne 5, 3) := by decide +kernel
theorem dX4_hungerAt_16 : decode cX4_hungerAt 16 = .ok (.iconst 0, 1) := by decide +kernel
theorem dX4_hungerAt_17 : decode cX4_hungerAt 17 = .ok (.ireturn, 1) := by decide +kernel
theorem dX4_hungerAt_18 : decode cX4_hungerAt 18 = .ok (.aload_n 0, 1) := by decide +kernel
theorem dX4_hungerAt_19 : decode cX4_hungerAt 19 = .ok (.getfield 9, 3) := by decide +kernel
theorem dX4_hungerAt_22 : decode cX4_hungerAt 22 = .ok (.iload_n 2, 1) := by decide +kernel
theorem dX4_hungerAt_23 : decode cX4_hungerAt 23 = .ok (.iaload, 1) := by decide +kernel
theorem dX4_hungerAt_24 : decode cX4_hungerAt 24 = .ok (.istore 4, 2) := by decide +kernel
theorem dX4_hungerAt_26 : decode cX4_hungerAt 26 = .ok (.iload 4, 2) := by decide +kernel
theorem dX4_hungerAt_28 : decode cX4_hungerAt 28 = .ok (.ifCond .lt 23, 3) := by decide +kernel
theorem dX4_hungerAt_31 : decode cX4_hungerAt 31 = .ok (.iload 4, 2) := by decide +kernel
theorem dX4_hungerAt_33 : decode cX4_hungerAt 33 = .ok (.aload_n 0, 1) := by decide +kernel
theorem dX4_hungerAt_34 : decode cX4_hungerAt 34 = .ok (.getfield 27, 3) := by decide +kernel
theorem dX4_hungerAt_37 : decode cX4_hungerAt 37 = .ok (.arraylength, 1) := by decide +kernel
theorem dX4_hungerAt_38 : decode cX4_hungerAt 38 = .ok (.if_icmp .ge 13, 3) := by decide +kernel
theorem dX4_hungerAt_41 : decode cX4_hungerAt 41 = .ok (.aload_n 0, 1) := by decide +kernel
theorem dX4_hungerAt_42 : decode cX4_hungerAt 42 = .ok (.getfield 27, 3) := by decide +kernel
theorem dX4_hungerAt_45 : decode cX4_hungerAt 45 = .ok (.iload 4, 2) := by decide +kernel
theorem dX4_hungerAt_47 : decode cX4_hungerAt 47 = .ok (.iaload, 1) := by decide +kernel
theorem dX4_hungerAt_48 : decode cX4_hungerAt 48 = .ok (.goto 4, 3) := by decide +kernel
theorem dX4_hungerAt_51 : decode cX4_hungerAt 51 = .ok (.iconst 0, 1) := by decide +kernel
theorem dX4_hungerAt_52 : decode cX4_hungerAt 52 = .ok (.istore 5, 2) := by decide +kernel
theorem dX4_hungerAt_54 : decode cX4_hungerAt 54 = .ok (.aload_n 0, 1) := by decide +kernel
theorem dX4_hungerAt_55 : decode cX4_hungerAt 55 = .ok (.getfield 24, 3) := by decide +kernel
theorem dX4_hungerAt_58 : decode cX4_hungerAt 58 = .ok (.iload_n 1, 1) := by decide +kernel
theorem dX4_hungerAt_59 : decode cX4_hungerAt 59 = .ok (.iaload, 1) := by decide +kernel
theorem dX4_hungerAt_60 : decode cX4_hungerAt 60 = .ok (.iload 5, 2) := by decide +kernel
theorem dX4_hungerAt_62 : decode cX4_hungerAt 62 = .ok (.iload 4, 2) := by decide +kernel
theorem dX4_hungerAt_64 : decode cX4_hungerAt 64 = .ok (.iload_n 3, 1) := by decide +kernel
theorem dX4_hungerAt_65 : decode cX4_hungerAt 65 = .ok (.invokestatic 88, 3) := by decide +kernel
theorem dX4_hungerAt_68 : decode cX4_hungerAt 68 = .ok (.ireturn, 1) := by decide +kernel
set_option maxRecDepth 20000 in
theorem ggX4_pleases_X4_hunger : GoodIn wsX4_pleases wsX4_hunger := goodIn_r _ [7, 8, 9, 10, 11, 6, 12, 13, 14, 15, 16, 17, 18, 19, 20, 21, 22, 23, 24, 1, 25, 26, 27, 28, 29, 30, 31, 32, 33, 34, 35, 36, 37, 38, 39, 40, 41, 42] (by decide +kernel) (by decide +kernel)
set_option maxRecDepth 20000 in
theorem gX4_pleases_X4_hunger : GoodIn wsX4_pleases (wsV RX4 92 RX4 yX4_hunger wsX4_hunger) := goodIn_app (goodIn_of _ (by decide +kernel)) ggX4_pleases_X4_hunger
theorem dX4_pleases_0 : decode cX4_pleases 0 = .ok (.iconst 0, 1) := by decide +kernel
theorem dX4_pleases_1 : decode cX4_pleases 1 = .ok (.istore_n 2, 1) := by decide +kernel
theorem dX4_pleases_2 : decode cX4_pleases 2 = .ok (.iconst 0, 1) := by decide +kernel
theorem dX4_pleases_3 : decode cX4_pleases 3 = .ok (.istore_n 3, 1) := by decide +kernel
theorem dX4_pleases_4 : decode cX4_pleases 4 = .ok (.iload_n 3, 1) := by decide +kernel
theorem dX4_pleases_5 : decode cX4_pleases 5 = .ok (.aload_n 0, 1) := by decide +kernel
theorem dX4_pleases_6 : decode cX4_pleases 6 = .ok (.getfield 43, 3) := by decide +kernel
theorem dX4_pleases_9 : decode cX4_pleases 9 = .ok (.if_icmp .ge 18, 3) := by decide +kernel
theorem dX4_pleases_12 : decode cX4_pleases 12 = .ok (.iload_n 2, 1) := by decide +kernel
theorem dX4_pleases_13 : decode cX4_pleases 13 = .ok (.aload_n 0, 1) := by decide +kernel
theorem dX4_pleases_14 : decode cX4_pleases 14 = .ok (.iload_n 3, 1) := by decide +kernel
theorem dX4_pleases_15 : decode cX4_pleases 15 = .ok (.iload_n 1, 1) := by decide +kernel
theorem dX4_pleases_16 : decode cX4_pleases 16 = .ok (.invokevirtual 92, 3) := by decide +kernel
theorem dX4_pleases_19 : decode cX4_pleases 19 = .ok (.iadd, 1) := by decide +kernel
theorem dX4_pleases_20 : decode cX4_pleases 20 = .ok (.istore_n 2, 1) := by decide +kernel
theorem dX4_pleases_21 : decode cX4_pleases 21 = .ok (.iinc 3 1, 3) := by decide +kernel
theorem dX4_pleases_24 : decode cX4_pleases 24 = .ok (.goto (-20), 3) := by decide +kernel
theorem dX4_pleases_27 : decode cX4_pleases 27 = .ok (.iload_n 2, 1) := by decide +kernel
theorem dX4_pleases_28 : decode cX4_pleases 28 = .ok (.aload_n 0, 1) := by decide +kernel
theorem dX4_pleases_29 : decode cX4_pleases 29 = .ok (.getfield 49, 3) := by decide +kernel
theorem dX4_pleases_32 : decode cX4_pleases 32 = .ok (.if_icmp .lt 7, 3) := by decide +kernel
theorem dX4_pleases_35 : decode cX4_pleases 35 = .ok (.iconst 1, 1) := by decide +kernel
theorem dX4_pleases_36 : decode cX4_pleases 36 = .ok (.goto 4, 3) := by decide +kernel
theorem dX4_pleases_39 : decode cX4_pleases 39 = .ok (.iconst 0, 1) := by decide +kernel
theorem dX4_pleases_40 : decode cX4_pleases 40 = .ok (.ireturn, 1) := by decide +kernel
theorem dX4_moodNow_0 : decode cX4_moodNow 0 = .ok (.aload_n 0, 1) := by decide +kernel
theorem dX4_moodNow_1 : decode cX4_moodNow 1 = .ok (.getfield 55, 3) := by decide +kernel
theorem dX4_moodNow_4 : decode cX4_moodNow 4 = .ok (.ifCond .le 29, 3) := by decide +kernel
theorem dX4_moodNow_7 : decode cX4_moodNow 7 = .ok (.aload_n 0, 1) := by decide +kernel
theorem dX4_moodNow_8 : decode cX4_moodNow 8 = .ok (.getfield 55, 3) := by decide +kernel
theorem dX4_moodNow_11 : decode cX4_moodNow 11 = .ok (.aload_n 0, 1) := by decide +kernel
theorem dX4_moodNow_12 : decode cX4_moodNow 12 = .ok (.getfield 33, 3) := by decide +kernel
theorem dX4_moodNow_15 : decode cX4_moodNow 15 = .ok (.arraylength, 1) := by decide +kernel
theorem dX4_moodNow_16 : decode cX4_moodNow 16 = .ok (.if_icmp .gt 17, 3) := by decide +kernel
theorem dX4_moodNow_19 : decode cX4_moodNow 19 = .ok (.aload_n 0, 1) := by decide +kernel
theorem dX4_moodNow_20 : decode cX4_moodNow 20 = .ok (.getfield 33, 3) := by decide +kernel
theorem dX4_moodNow_23 : decode cX4_moodNow 23 = .ok (.aload_n 0, 1) := by decide +kernel
theorem dX4_moodNow_24 : decode cX4_moodNow 24 = .ok (.getfield 55, 3) := by decide +kernel
theorem dX4_moodNow_27 : decode cX4_moodNow 27 = .ok (.iconst 1, 1) := by decide +kernel
theorem dX4_moodNow_28 : decode cX4_moodNow 28 = .ok (.isub, 1) := by decide +kernel
theorem dX4_moodNow_29 : decode cX4_moodNow 29 = .ok (.iaload, 1) := by decide +kernel
theorem dX4_moodNow_30 : decode cX4_moodNow 30 = .ok (.goto 7, 3) := by decide +kernel
theorem dX4_moodNow_33 : decode cX4_moodNow 33 = .ok (.aload_n 0, 1) := by decide +kernel
theorem dX4_moodNow_34 : decode cX4_moodNow 34 = .ok (.getfield 52, 3) := by decide +kernel
theorem dX4_moodNow_37 : decode cX4_moodNow 37 = .ok (.ireturn, 1) := by decide +kernel
set_option maxRecDepth 20000 in
theorem ggX4_broken_X4_moodNow : GoodIn wsX4_broken wsX4_moodNow := goodIn_r _ [5, 6, 7, 8, 9, 10, 11, 12, 13, 14, 15, 16, 17, 18, 19, 20, 21, 22] (by decide +kernel) (by decide +kernel)
set_option maxRecDepth 20000 in
theorem gX4_broken_X4_moodNow : GoodIn wsX4_broken (wsV RX4 95 RX4 yX4_moodNow wsX4_moodNow) := goodIn_app (goodIn_of _ (by decide +kernel)) ggX4_broken_X4_moodNow
theorem dX4_broken_0 : decode cX4_broken 0 = .ok (.aload_n 0, 1) := by decide +kernel
theorem dX4_broken_1 : decode cX4_broken 1 = .ok (.invokevirtual 95, 3) := by decide +kernel
theorem dX4_broken_4 : decode cX4_broken 4 = .ok (.ifCond .gt 7, 3) := by decide +kernel
theorem dX4_broken_7 : decode cX4_broken 7 = .ok (.iconst 1, 1) := by decide +kernel
theorem dX4_broken_8 : decode cX4_broken 8 = .ok (.goto 4, 3) := by decide +kernel
theorem dX4_broken_11 : decode cX4_broken 11 = .ok (.iconst 0, 1) := by decide +kernel
theorem dX4_broken_12 : decode cX4_broken 12 = .ok (.ireturn, 1) := by decide +kernel
set_option maxRecDepth 20000 in
theorem ggX4_giveNext_X4_moodNow : GoodIn wsX4_giveNext wsX4_moodNow := goodIn_r _ [12, 1, 3, 13, 52, 53, 54, 55, 56, 57, 58, 59, 60, 61, 62, 63, 64, 65] (by decide +kernel) (by decide +kernel)
set_option maxRecDepth 20000 in
theorem gX4_giveNext_X4_moodNow : GoodIn wsX4_giveNext (wsV RX4 95 RX4 yX4_moodNow wsX4_moodNow) := goodIn_app (goodIn_of _ (by decide +kernel)) ggX4_giveNext_X4_moodNow
set_option maxRecDepth 20000 in
theorem ggX4_giveNext_X4_pleases : GoodIn wsX4_giveNext wsX4_pleases := goodIn_r _ [17, 18, 19, 20, 21, 22, 11, 23, 24, 25, 26, 27, 28, 29, 30, 31, 32, 33, 34, 35, 36, 37, 38, 39, 40, 41, 42, 43, 44, 52, 53, 54, 55, 56, 57, 58, 59, 60, 61, 62, 63, 64, 65] (by decide +kernel) (by decide +kernel)
set_option maxRecDepth 20000 in
theorem gX4_giveNext_X4_pleases : GoodIn wsX4_giveNext (wsV RX4 99 RX4 yX4_pleases wsX4_pleases) := goodIn_app (goodIn_of _ (by decide +kernel)) ggX4_giveNext_X4_pleases
set_option maxRecDepth 20000 in
theorem ggX4_giveNext_X3_moodBehind : GoodIn wsX4_giveNext wsX3_moodBehind := goodIn_r _ [48, 49, 50, 6, 51] (by decide +kernel) (by decide +kernel)
set_option maxRecDepth 20000 in
theorem gX4_giveNext_X3_moodBehind : GoodIn wsX4_giveNext (va_wsS RX4 102 yX3_moodBehind wsX3_moodBehind) := goodIn_app (goodIn_of _ (by decide +kernel)) ggX4_giveNext_X3_moodBehind
theorem dX4_giveNext_0 : decode cX4_giveNext 0 = .ok (.aload_n 0, 1) := by decide +kernel
theorem dX4_giveNext_1 : decode cX4_giveNext 1 = .ok (.getfield 55, 3) := by decide +kernel
theorem dX4_giveNext_4 : decode cX4_giveNext 4 = .ok (.aload_n 0, 1) := by decide +kernel
theorem dX4_giveNext_5 : decode cX4_giveNext 5 = .ok (.getfield 30, 3) := by decide +kernel
theorem dX4_giveNext_8 : decode cX4_giveNext 8 = .ok (.arraylength, 1) := by decide +kernel
theorem dX4_giveNext_9 : decode cX4_giveNext 9 = .ok (.if_icmp .lt 6, 3) := by decide +kernel
theorem dX4_giveNext_12 : decode cX4_giveNext 12 = .ok (.bipush (-3), 2) := by decide +kernel
theorem dX4_giveNext_14 : decode cX4_giveNext 14 = .ok (.ireturn, 1) := by decide +kernel
theorem dX4_giveNext_15 : decode cX4_giveNext 15 = .ok (.iload_n 1, 1) := by decide +kernel
theorem dX4_giveNext_16 : decode cX4_giveNext 16 = .ok (.iconst (-1), 1) := by decide +kernel
theorem dX4_giveNext_17 : decode cX4_giveNext 17 = .ok (.if_icmp .ne 12, 3) := by decide +kernel
theorem dX4_giveNext_20 : decode cX4_giveNext 20 = .ok (.aload_n 0, 1) := by decide +kernel
theorem dX4_giveNext_21 : decode cX4_giveNext 21 = .ok (.invokevirtual 95, 3) := by decide +kernel
theorem dX4_giveNext_24 : decode cX4_giveNext 24 = .ok (.iconst 2, 1) := by decide +kernel
theorem dX4_giveNext_25 : decode cX4_giveNext 25 = .ok (.isub, 1) := by decide +kernel
theorem dX4_giveNext_26 : decode cX4_giveNext 26 = .ok (.goto 15, 3) := by decide +kernel
theorem dX4_giveNext_29 : decode cX4_giveNext 29 = .ok (.aload_n 0, 1) := by decide +kernel
theorem dX4_giveNext_30 : decode cX4_giveNext 30 = .ok (.invokevirtual 95, 3) := by decide +kernel
theorem dX4_giveNext_33 : decode cX4_giveNext 33 = .ok (.aload_n 0, 1) := by decide +kernel
theorem dX4_giveNext_34 : decode cX4_giveNext 34 = .ok (.iload_n 1, 1) := by decide +kernel
theorem dX4_giveNext_35 : decode cX4_giveNext 35 = .ok (.invokevirtual 99, 3) := by decide +kernel
theorem dX4_giveNext_38 : decode cX4_giveNext 38 = .ok (.invokestatic 102, 3) := by decide +kernel
theorem dX4_giveNext_41 : decode cX4_giveNext 41 = .ok (.istore_n 2, 1) := by decide +kernel
theorem dX4_giveNext_42 : decode cX4_giveNext 42 = .ok (.aload_n 0, 1) := by decide +kernel
theorem dX4_giveNext_43 : decode cX4_giveNext 43 = .ok (.getfield 30, 3) := by decide +kernel
theorem dX4_giveNext_46 : decode cX4_giveNext 46 = .ok (.aload_n 0, 1) := by decide +kernel
theorem dX4_giveNext_47 : decode cX4_giveNext 47 = .ok (.getfield 55, 3) := by decide +kernel
theorem dX4_giveNext_50 : decode cX4_giveNext 50 = .ok (.iload_n 1, 1) := by decide +kernel
theorem dX4_giveNext_51 : decode cX4_giveNext 51 = .ok (.iconst (-1), 1) := by decide +kernel
theorem dX4_giveNext_52 : decode cX4_giveNext 52 = .ok (.if_icmp .ne 8, 3) := by decide +kernel
theorem dX4_giveNext_55 : decode cX4_giveNext 55 = .ok (.bipush 12, 2) := by decide +kernel
theorem dX4_giveNext_57 : decode cX4_giveNext 57 = .ok (.goto 4, 3) := by decide +kernel
theorem dX4_giveNext_60 : decode cX4_giveNext 60 = .ok (.iload_n 1, 1) := by decide +kernel
theorem dX4_giveNext_61 : decode cX4_giveNext 61 = .ok (.iastore, 1) := by decide +kernel
theorem dX4_giveNext_62 : decode cX4_giveNext 62 = .ok (.aload_n 0, 1) := by decide +kernel
theorem dX4_giveNext_63 : decode cX4_giveNext 63 = .ok (.getfield 33, 3) := by decide +kernel
theorem dX4_giveNext_66 : decode cX4_giveNext 66 = .ok (.aload_n 0, 1) := by decide +kernel
theorem dX4_giveNext_67 : decode cX4_giveNext 67 = .ok (.getfield 55, 3) := by decide +kernel
theorem dX4_giveNext_70 : decode cX4_giveNext 70 = .ok (.iconst 0, 1) := by decide +kernel
theorem dX4_giveNext_71 : decode cX4_giveNext 71 = .ok (.iload_n 2, 1) := by decide +kernel
theorem dX4_giveNext_72 : decode cX4_giveNext 72 = .ok (.invokestatic 108, 3) := by decide +kernel
theorem dX4_giveNext_75 : decode cX4_giveNext 75 = .ok (.iastore, 1) := by decide +kernel
theorem dX4_giveNext_76 : decode cX4_giveNext 76 = .ok (.aload_n 0, 1) := by decide +kernel
theorem dX4_giveNext_77 : decode cX4_giveNext 77 = .ok (.dup, 1) := by decide +kernel
theorem dX4_giveNext_78 : decode cX4_giveNext 78 = .ok (.getfield 55, 3) := by decide +kernel
theorem dX4_giveNext_81 : decode cX4_giveNext 81 = .ok (.iconst 1, 1) := by decide +kernel
theorem dX4_giveNext_82 : decode cX4_giveNext 82 = .ok (.iadd, 1) := by decide +kernel
theorem dX4_giveNext_83 : decode cX4_giveNext 83 = .ok (.putfield 55, 3) := by decide +kernel
theorem dX4_giveNext_86 : decode cX4_giveNext 86 = .ok (.aload_n 0, 1) := by decide +kernel
theorem dX4_giveNext_87 : decode cX4_giveNext 87 = .ok (.invokevirtual 95, 3) := by decide +kernel
theorem dX4_giveNext_90 : decode cX4_giveNext 90 = .ok (.ireturn, 1) := by decide +kernel
theorem dX4_takeBack_0 : decode cX4_takeBack 0 = .ok (.aload_n 0, 1) := by decide +kernel
theorem dX4_takeBack_1 : decode cX4_takeBack 1 = .ok (.getfield 55, 3) := by decide +kernel
theorem dX4_takeBack_4 : decode cX4_takeBack 4 = .ok (.ifCond .ne 5, 3) := by decide +kernel
theorem dX4_takeBack_7 : decode cX4_takeBack 7 = .ok (.iconst 0, 1) := by decide +kernel
theorem dX4_takeBack_8 : decode cX4_takeBack 8 = .ok (.ireturn, 1) := by decide +kernel
theorem dX4_takeBack_9 : decode cX4_takeBack 9 = .ok (.aload_n 0, 1) := by decide +kernel
theorem dX4_takeBack_10 : decode cX4_takeBack 10 = .ok (.dup, 1) := by decide +kernel
theorem dX4_takeBack_11 : decode cX4_takeBack 11 = .ok (.getfield 55, 3) := by decide +kernel
theorem dX4_takeBack_14 : decode cX4_takeBack 14 = .ok (.iconst 1, 1) := by decide +kernel
theorem dX4_takeBack_15 : decode cX4_takeBack 15 = .ok (.isub, 1) := by decide +kernel
theorem dX4_takeBack_16 : decode cX4_takeBack 16 = .ok (.putfield 55, 3) := by decide +kernel
theorem dX4_takeBack_19 : decode cX4_takeBack 19 = .ok (.iconst 1, 1) := by decide +kernel
theorem dX4_takeBack_20 : decode cX4_takeBack 20 = .ok (.ireturn, 1) := by decide +kernel
theorem dX4_givenBits_0 : decode cX4_givenBits 0 = .ok (.iconst 0, 1) := by decide +kernel
theorem dX4_givenBits_1 : decode cX4_givenBits 1 = .ok (.istore_n 1, 1) := by decide +kernel
theorem dX4_givenBits_2 : decode cX4_givenBits 2 = .ok (.iconst 0, 1) := by decide +kernel
theorem dX4_givenBits_3 : decode cX4_givenBits 3 = .ok (.istore_n 2, 1) := by decide +kernel
theorem dX4_givenBits_4 : decode cX4_givenBits 4 = .ok (.iload_n 2, 1) := by decide +kernel
theorem dX4_givenBits_5 : decode cX4_givenBits 5 = .ok (.aload_n 0, 1) := by decide +kernel
theorem dX4_givenBits_6 : decode cX4_givenBits 6 = .ok (.getfield 55, 3) := by decide +kernel
theorem dX4_givenBits_9 : decode cX4_givenBits 9 = .ok (.if_icmp .ge 31, 3) := by decide +kernel
theorem dX4_givenBits_12 : decode cX4_givenBits 12 = .ok (.aload_n 0, 1) := by decide +kernel
theorem dX4_givenBits_13 : decode cX4_givenBits 13 = .ok (.getfield 30, 3) := by decide +kernel
theorem dX4_givenBits_16 : decode cX4_givenBits 16 = .ok (.iload_n 2, 1) := by decide +kernel
theorem dX4_givenBits_17 : decode cX4_givenBits 17 = .ok (.iaload, 1) := by decide +kernel
theorem dX4_givenBits_18 : decode cX4_givenBits 18 = .ok (.bipush 12, 2) := by decide +kernel
theorem dX4_givenBits_20 : decode cX4_givenBits 20 = .ok (.if_icmp .eq 14, 3) := by decide +kernel
theorem dX4_givenBits_23 : decode cX4_givenBits 23 = .ok (.iload_n 1, 1) := by decide +kernel
theorem dX4_givenBits_24 : decode cX4_givenBits 24 = .ok (.iconst 1, 1) := by decide +kernel
theorem dX4_givenBits_25 : decode cX4_givenBits 25 = .ok (.aload_n 0, 1) := by decide +kernel
theorem dX4_givenBits_26 : decode cX4_givenBits 26 = .ok (.getfield 30, 3) := by decide +kernel
theorem dX4_givenBits_29 : decode cX4_givenBits 29 = .ok (.iload_n 2, 1) := by decide +kernel
theorem dX4_givenBits_30 : decode cX4_givenBits 30 = .ok (.iaload, 1) := by decide +kernel
theorem dX4_givenBits_31 : decode cX4_givenBits 31 = .ok (.ishl, 1) := by decide +kernel
theorem dX4_givenBits_32 : decode cX4_givenBits 32 = .ok (.ior, 1) := by decide +kernel
theorem dX4_givenBits_33 : decode cX4_givenBits 33 = .ok (.istore_n 1, 1) := by decide +kernel
theorem dX4_givenBits_34 : decode cX4_givenBits 34 = .ok (.iinc 2 1, 3) := by decide +kernel
theorem dX4_givenBits_37 : decode cX4_givenBits 37 = .ok (.goto (-33), 3) := by decide +kernel
theorem dX4_givenBits_40 : decode cX4_givenBits 40 = .ok (.iload_n 1, 1) := by decide +kernel
theorem dX4_givenBits_41 : decode cX4_givenBits 41 = .ok (.ireturn, 1) := by decide +kernel
set_option maxRecDepth 20000 in
theorem ggX4_givenWorth_X4_worthOf : GoodIn wsX4_givenWorth wsX4_worthOf := goodIn_r _ [7, 8, 9, 10, 11, 6, 12, 13, 14, 15, 16, 17, 18, 19, 20, 21, 22, 23, 24, 25, 26, 27] (by decide +kernel) (by decide +kernel)
set_option maxRecDepth 20000 in
theorem gX4_givenWorth_X4_worthOf : GoodIn wsX4_givenWorth (wsV RX4 113 RX4 yX4_worthOf wsX4_worthOf) := goodIn_app (goodIn_of _ (by decide +kernel)) ggX4_givenWorth_X4_worthOf
theorem dX4_givenWorth_0 : decode cX4_givenWorth 0 = .ok (.iconst 0, 1) := by decide +kernel
theorem dX4_givenWorth_1 : decode cX4_givenWorth 1 = .ok (.istore_n 1, 1) := by decide +kernel
theorem dX4_givenWorth_2 : decode cX4_givenWorth 2 = .ok (.iconst 0, 1) := by decide +kernel
theorem dX4_givenWorth_3 : decode cX4_givenWorth 3 = .ok (.istore_n 2, 1) := by decide +kernel
theorem dX4_givenWorth_4 : decode cX4_givenWorth 4 = .ok (.iload_n 2, 1) := by decide +kernel
theorem dX4_givenWorth_5 : decode cX4_givenWorth 5 = .ok (.aload_n 0, 1) := by decide +kernel
theorem dX4_givenWorth_6 : decode cX4_givenWorth 6 = .ok (.getfield 55, 3) := by decide +kernel
theorem dX4_givenWorth_9 : decode cX4_givenWorth 9 = .ok (.if_icmp .ge 22, 3) := by decide +kernel
theorem dX4_givenWorth_12 : decode cX4_givenWorth 12 = .ok (.iload_n 1, 1) := by decide +kernel
theorem dX4_givenWorth_13 : decode cX4_givenWorth 13 = .ok (.aload_n 0, 1) := by decide +kernel
theorem dX4_givenWorth_14 : decode cX4_givenWorth 14 = .ok (.aload_n 0, 1) := by decide +kernel
theorem dX4_givenWorth_15 : decode cX4_givenWorth 15 = .ok (.getfield 30, 3) := by decide +kernel
theorem dX4_givenWorth_18 : decode cX4_givenWorth 18 = .ok (.iload_n 2, 1) := by decide +kernel
theorem dX4_givenWorth_19 : decode cX4_givenWorth 19 = .ok (.iaload, 1) := by decide +kernel
theorem dX4_givenWorth_20 : decode cX4_givenWorth 20 = .ok (.invokevirtual 113, 3) := by decide +kernel
theorem dX4_givenWorth_23 : decode cX4_givenWorth 23 = .ok (.iadd, 1) := by decide +kernel
theorem dX4_givenWorth_24 : decode cX4_givenWorth 24 = .ok (.istore_n 1, 1) := by decide +kernel
theorem dX4_givenWorth_25 : decode cX4_givenWorth 25 = .ok (.iinc 2 1, 3) := by decide +kernel
theorem dX4_givenWorth_28 : decode cX4_givenWorth 28 = .ok (.goto (-24), 3) := by decide +kernel
theorem dX4_givenWorth_31 : decode cX4_givenWorth 31 = .ok (.iload_n 1, 1) := by decide +kernel
theorem dX4_givenWorth_32 : decode cX4_givenWorth 32 = .ok (.ireturn, 1) := by decide +kernel
set_option maxRecDepth 20000 in
theorem ggX4_eatenBits_X4_goneAhead : GoodIn wsX4_eatenBits wsX4_goneAhead := goodIn_r _ [6, 7, 8, 9, 5, 10, 11, 12, 13, 14, 15, 16, 17, 18, 19, 20, 21, 22, 23, 24, 25, 26, 27, 28, 29, 30, 31, 32, 33, 34, 35, 36, 37, 1, 38, 39, 40, 41, 42, 43, 44, 45, 46, 47, 48, 49, 50, 51, 52, 53, 54, 55] (by decide +kernel) (by decide +kernel)
set_option maxRecDepth 20000 in
theorem gX4_eatenBits_X4_goneAhead : GoodIn wsX4_eatenBits (wsV RX4 116 RX4 yX4_goneAhead wsX4_goneAhead) := goodIn_app (goodIn_of _ (by decide +kernel)) ggX4_eatenBits_X4_goneAhead
set_option maxRecDepth 20000 in
theorem ggX4_eatenBits_X4_givenBits : GoodIn wsX4_eatenBits wsX4_givenBits := goodIn_r _ [10, 11, 12, 42, 43, 44, 45, 46, 47, 48, 49, 50, 51, 52, 53, 54, 55] (by decide +kernel) (by decide +kernel)
set_option maxRecDepth 20000 in
theorem gX4_eatenBits_X4_givenBits : GoodIn wsX4_eatenBits (wsV RX4 119 RX4 yX4_givenBits wsX4_givenBits) := goodIn_app (goodIn_of _ (by decide +kernel)) ggX4_eatenBits_X4_givenBits
theorem dX4_eatenBits_0 : decode cX4_eatenBits 0 = .ok (.aload_n 0, 1) := by decide +kernel
theorem dX4_eatenBits_1 : decode cX4_eatenBits 1 = .ok (.aload_n 0, 1) := by decide +kernel
theorem dX4_eatenBits_2 : decode cX4_eatenBits 2 = .ok (.getfield 43, 3) := by decide +kernel
theorem dX4_eatenBits_5 : decode cX4_eatenBits 5 = .ok (.invokevirtual 116, 3) := by decide +kernel
theorem dX4_eatenBits_8 : decode cX4_eatenBits 8 = .ok (.aload_n 0, 1) := by decide +kernel
theorem dX4_eatenBits_9 : decode cX4_eatenBits 9 = .ok (.invokevirtual 119, 3) := by decide +kernel
theorem dX4_eatenBits_12 : decode cX4_eatenBits 12 = .ok (.iconst (-1), 1) := by decide +kernel
theorem dX4_eatenBits_13 : decode cX4_eatenBits 13 = .ok (.ixor, 1) := by decide +kernel
theorem dX4_eatenBits_14 : decode cX4_eatenBits 14 = .ok (.iand, 1) := by decide +kernel
theorem dX4_eatenBits_15 : decode cX4_eatenBits 15 = .ok (.ireturn, 1) := by decide +kernel
set_option maxRecDepth 20000 in
theorem ggX4_mealOf_X4_goneAhead : GoodIn wsX4_mealOf wsX4_goneAhead := goodIn_r _ [5, 6, 7, 8, 4, 9, 10, 11, 12, 13, 14, 15, 16, 17, 18, 19, 20, 21, 22, 23, 24, 25, 26, 27, 28, 29, 30, 31, 32, 33, 34, 35, 36, 37, 38, 39, 40, 41, 42, 43, 44, 45, 46, 47, 48, 49, 50, 51, 52, 53, 54, 55] (by decide +kernel) (by decide +kernel)
set_option maxRecDepth 20000 in
theorem gX4_mealOf_X4_goneAhead : GoodIn wsX4_mealOf (wsV RX4 116 RX4 yX4_goneAhead wsX4_goneAhead) := goodIn_app (goodIn_of _ (by decide +kernel)) ggX4_mealOf_X4_goneAhead
set_option maxRecDepth 20000 in
theorem ggX4_mealOf_X4_favourite : GoodIn wsX4_mealOf wsX4_favourite := goodIn_r _ [15, 16, 17, 18, 19, 4, 20, 21, 22, 23, 24, 25, 26, 27, 28, 29, 30, 31, 32, 33, 34, 35, 36, 37, 38, 39, 40, 41, 42, 43, 44, 45, 46, 47, 48, 49, 50, 51, 52, 53, 54, 55] (by decide +kernel) (by decide +kernel)
set_option maxRecDepth 20000 in
theorem gX4_mealOf_X4_favourite : GoodIn wsX4_mealOf (wsV RX4 122 RX4 yX4_favourite wsX4_favourite) := goodIn_app (goodIn_of _ (by decide +kernel)) ggX4_mealOf_X4_favourite
theorem dX4_mealOf_0 : decode cX4_mealOf 0 = .ok (.aload_n 0, 1) := by decide +kernel
theorem dX4_mealOf_1 : decode cX4_mealOf 1 = .ok (.iload_n 1, 1) := by decide +kernel
theorem dX4_mealOf_2 : decode cX4_mealOf 2 = .ok (.aload_n 0, 1) := by decide +kernel
theorem dX4_mealOf_3 : decode cX4_mealOf 3 = .ok (.iload_n 1, 1) := by decide +kernel
theorem dX4_mealOf_4 : decode cX4_mealOf 4 = .ok (.invokevirtual 116, 3) := by decide +kernel
theorem dX4_mealOf_7 : decode cX4_mealOf 7 = .ok (.invokevirtual 122, 3) := by decide +kernel
theorem dX4_mealOf_10 : decode cX4_mealOf 10 = .ok (.ireturn, 1) := by decide +kernel
set_option maxRecDepth 20000 in
theorem ggX4_goneAhead_X4_givenBits : GoodIn wsX4_goneAhead wsX4_givenBits := goodIn_r _ [5, 6, 7, 38, 39, 40, 41, 42, 43, 44, 45, 46, 47, 48, 49, 50, 51] (by decide +kernel) (by decide +kernel)
set_option maxRecDepth 20000 in
theorem gX4_goneAhead_X4_givenBits : GoodIn wsX4_goneAhead (wsV RX4 119 RX4 yX4_givenBits wsX4_givenBits) := goodIn_app (goodIn_of _ (by decide +kernel)) ggX4_goneAhead_X4_givenBits
set_option maxRecDepth 20000 in
theorem ggX4_goneAhead_X4_favourite : GoodIn wsX4_goneAhead wsX4_favourite := goodIn_r _ [11, 12, 13, 14, 15, 4, 16, 17, 18, 19, 20, 21, 22, 23, 24, 25, 26, 27, 28, 29, 30, 31, 32, 33, 34, 35, 36, 37, 38, 39, 40, 41, 42, 43, 44, 45, 46, 47, 48, 49, 50, 51] (by decide +kernel) (by decide +kernel)
set_option maxRecDepth 20000 in
theorem gX4_goneAhead_X4_favourite : GoodIn wsX4_goneAhead (wsV RX4 122 RX4 yX4_favourite wsX4_favourite) := goodIn_app (goodIn_of _ (by decide +kernel)) ggX4_goneAhead_X4_favourite
theorem dX4_goneAhead_0 : decode cX4_goneAhead 0 = .ok (.aload_n 0, 1) := by decide +kernel
theorem dX4_goneAhead_1 : decode cX4_goneAhead 1 = .ok (.invokevirtual 119, 3) := by decide +kernel
theorem dX4_goneAhead_4 : decode cX4_goneAhead 4 = .ok (.istore_n 2, 1) := by decide +kernel
theorem dX4_goneAhead_5 : decode cX4_goneAhead 5 = .ok (.iconst 0, 1) := by decide +kernel
theorem dX4_goneAhead_6 : decode cX4_goneAhead 6 = .ok (.istore_n 3, 1) := by decide +kernel
theorem dX4_goneAhead_7 : decode cX4_goneAhead 7 = .ok (.iload_n 3, 1) := by decide +kernel
theorem dX4_goneAhead_8 : decode cX4_goneAhead 8 = .ok (.iload_n 1, 1) := by decide +kernel
theorem dX4_goneAhead_9 : decode cX4_goneAhead 9 = .ok (.if_icmp .ge 30, 3) := by decide +kernel
theorem dX4_goneAhead_12 : decode cX4_goneAhead 12 = .ok (.aload_n 0, 1) := by decide +kernel
theorem dX4_goneAhead_13 : decode cX4_goneAhead 13 = .ok (.iload_n 3, 1) := by decide +kernel
theorem dX4_goneAhead_14 : decode cX4_goneAhead 14 = .ok (.iload_n 2, 1) := by decide +kernel
theorem dX4_goneAhead_15 : decode cX4_goneAhead 15 = .ok (.invokevirtual 122, 3) := by decide +kernel
theorem dX4_goneAhead_18 : decode cX4_goneAhead 18 = .ok (.istore 4, 2) := by decide +kernel
theorem dX4_goneAhead_20 : decode cX4_goneAhead 20 = .ok (.iload 4, 2) := by decide +kernel
theorem dX4_goneAhead_22 : decode cX4_goneAhead 22 = .ok (.iconst (-1), 1) := by decide +kernel
theorem dX4_goneAhead_23 : decode cX4_goneAhead 23 = .ok (.if_icmp .eq 10, 3) := by decide +kernel
theorem dX4_goneAhead_26 : decode cX4_goneAhead 26 = .ok (.iload_n 2, 1) := by decide +kernel
theorem dX4_goneAhead_27 : decode cX4_goneAhead 27 = .ok (.iconst 1, 1) := by decide +kernel
theorem dX4_goneAhead_28 : decode cX4_goneAhead 28 = .ok (.iload 4, 2) := by decide +kernel
theorem dX4_goneAhead_30 : decode cX4_goneAhead 30 = .ok (.ishl, 1) := by decide +kernel
theorem dX4_goneAhead_31 : decode cX4_goneAhead 31 = .ok (.ior, 1) := by decide +kernel
theorem dX4_goneAhead_32 : decode cX4_goneAhead 32 = .ok (.istore_n 2, 1) := by decide +kernel
theorem dX4_goneAhead_33 : decode cX4_goneAhead 33 = .ok (.iinc 3 1, 3) := by decide +kernel
theorem dX4_goneAhead_36 : decode cX4_goneAhead 36 = .ok (.goto (-29), 3) := by decide +kernel
theorem dX4_goneAhead_39 : decode cX4_goneAhead 39 = .ok (.iload_n 2, 1) := by decide +kernel
theorem dX4_goneAhead_40 : decode cX4_goneAhead 40 = .ok (.ireturn, 1) := by decide +kernel
set_option maxRecDepth 20000 in
theorem ggX4_favourite_X4_hunger : GoodIn wsX4_favourite wsX4_hunger := goodIn_r _ [6, 7, 8, 9, 10, 5, 11, 1, 12, 13, 14, 15, 16, 17, 18, 19, 20, 21, 22, 23, 24, 25, 26, 27, 28, 29, 30, 31, 32, 33, 34, 35, 36, 37, 38, 39, 40, 41] (by decide +kernel) (by decide +kernel)
set_option maxRecDepth 20000 in
theorem gX4_favourite_X4_hunger : GoodIn wsX4_favourite (wsV RX4 92 RX4 yX4_hunger wsX4_hunger) := goodIn_app (goodIn_of _ (by decide +kernel)) ggX4_favourite_X4_hunger
theorem dX4_favourite_0 : decode cX4_favourite 0 = .ok (.iconst (-1), 1) := by decide +kernel
theorem dX4_favourite_1 : decode cX4_favourite 1 = .ok (.istore_n 3, 1) := by decide +kernel
theorem dX4_favourite_2 : decode cX4_favourite 2 = .ok (.iconst 0, 1) := by decide +kernel
theorem dX4_favourite_3 : decode cX4_favourite 3 = .ok (.istore 4, 2) := by decide +kernel
theorem dX4_favourite_5 : decode cX4_favourite 5 = .ok (.iconst 0, 1) := by decide +kernel
theorem dX4_favourite_6 : decode cX4_favourite 6 = .ok (.istore 5, 2) := by decide +kernel
theorem dX4_favourite_8 : decode cX4_favourite 8 = .ok (.iload 5, 2) := by decide +kernel
theorem dX4_favourite_10 : decode cX4_favourite 10 = .ok (.aload_n 0, 1) := by decide +kernel
theorem dX4_favourite_11 : decode cX4_favourite 11 = .ok (.getfield 39, 3) := by decide +kernel
theorem dX4_favourite_14 : decode cX4_favourite 14 = .ok (.if_icmp .ge 41, 3) := by decide +kernel
theorem dX4_favourite_17 : decode cX4_favourite 17 = .ok (.aload_n 0, 1) := by decide +kernel
theorem dX4_favourite_18 : decode cX4_favourite 18 = .ok (.iload_n 1, 1) := by decide +kernel
theorem dX4_favourite_19 : decode cX4_favourite 19 = .ok (.iload 5, 2) := by decide +kernel
theorem dX4_favourite_21 : decode cX4_favourite 21 = .ok (.invokevirtual 92, 3) := by decide +kernel
theorem dX4_favourite_24 : decode cX4_favourite 24 = .ok (.istore 6, 2) := by decide +kernel
theorem dX4_favourite_26 : decode cX4_favourite 26 = .ok (.iload_n 2, 1) := by decide +kernel
theorem dX4_favourite_27 : decode cX4_favourite 27 = .ok (.iload 5, 2) := by decide +kernel
theorem dX4_favourite_29 : decode cX4_favourite 29 = .ok (.ishr, 1) := by decide +kernel
theorem dX4_favourite_30 : decode cX4_favourite 30 = .ok (.iconst 1, 1) := by decide +kernel
theorem dX4_favourite_31 : decode cX4_favourite 31 = .ok (.iand, 1) := by decide +kernel
theorem dX4_favourite_32 : decode cX4_favourite 32 = .ok (.ifCond .ne 17, 3) := by decide +kernel
theorem dX4_favourite_35 : decode cX4_favourite 35 = .ok (.iload 6, 2) := by decide +kernel
theorem dX4_favourite_37 : decode cX4_favourite 37 = .ok (.iload 4, 2) := by decide +kernel
theorem dX4_favourite_39 : decode cX4_favourite 39 = .ok (.if_icmp .le 10, 3) := by decide +kernel
theorem dX4_favourite_42 : decode cX4_favourite 42 = .ok (.iload 5, 2) := by decide +kernel
theorem dX4_favourite_44 : decode cX4_favourite 44 = .ok (.istore_n 3, 1) := by decide +kernel
theorem dX4_favourite_45 : decode cX4_favourite 45 = .ok (.iload 6, 2) := by decide +kernel
theorem dX4_favourite_47 : decode cX4_favourite 47 = .ok (.istore 4, 2) := by decide +kernel
theorem dX4_favourite_49 : decode cX4_favourite 49 = .ok (.iinc 5 1, 3) := by decide +kernel
theorem dX4_favourite_52 : decode cX4_favourite 52 = .ok (.goto (-44), 3) := by decide +kernel
theorem dX4_favourite_55 : decode cX4_favourite 55 = .ok (.iload_n 3, 1) := by decide +kernel
theorem dX4_favourite_56 : decode cX4_favourite 56 = .ok (.ireturn, 1) := by decide +kernel
set_option maxRecDepth 20000 in
theorem ggX4_holesOf_X4_hasBolt : GoodIn wsX4_holesOf wsX4_hasBolt := goodIn_r _ [6, 7, 8, 9, 10, 11, 12, 13, 14, 15, 16, 17, 18, 19, 20, 21] (by decide +kernel) (by decide +kernel)
set_option maxRecDepth 20000 in
theorem gX4_holesOf_X4_hasBolt : GoodIn wsX4_holesOf (wsV RX4 74 RX4 yX4_hasBolt wsX4_hasBolt) := goodIn_app (goodIn_of _ (by decide +kernel)) ggX4_holesOf_X4_hasBolt
theorem dX4_holesOf_0 : decode cX4_holesOf 0 = .ok (.aload_n 0, 1) := by decide +kernel
theorem dX4_holesOf_1 : decode cX4_holesOf 1 = .ok (.iload_n 1, 1) := by decide +kernel
theorem dX4_holesOf_2 : decode cX4_holesOf 2 = .ok (.invokevirtual 74, 3) := by decide +kernel
theorem dX4_holesOf_5 : decode cX4_holesOf 5 = .ok (.ifCond .eq 12, 3) := by decide +kernel
theorem dX4_holesOf_8 : decode cX4_holesOf 8 = .ok (.aload_n 0, 1) := by decide +kernel
theorem dX4_holesOf_9 : decode cX4_holesOf 9 = .ok (.getfield 21, 3) := by decide +kernel
theorem dX4_holesOf_12 : decode cX4_holesOf 12 = .ok (.iload_n 1, 1) := by decide +kernel
theorem dX4_holesOf_13 : decode cX4_holesOf 13 = .ok (.iaload, 1) := by decide +kernel
theorem dX4_holesOf_14 : decode cX4_holesOf 14 = .ok (.goto 4, 3) := by decide +kernel
theorem dX4_holesOf_17 : decode cX4_holesOf 17 = .ok (.iconst (-1), 1) := by decide +kernel
theorem dX4_holesOf_18 : decode cX4_holesOf 18 = .ok (.ireturn, 1) := by decide +kernel
set_option maxRecDepth 20000 in
theorem ggX4_holesAreTold_X4_holesOf : GoodIn wsX4_holesAreTold wsX4_holesOf := goodIn_r _ [5, 6, 7, 8, 9, 4, 10, 11, 12, 13, 14, 15, 16, 17, 18, 19, 20, 21, 22, 23, 24, 25] (by decide +kernel) (by decide +kernel)
set_option maxRecDepth 20000 in
theorem gX4_holesAreTold_X4_holesOf : GoodIn wsX4_holesAreTold (wsV RX4 125 RX4 yX4_holesOf wsX4_holesOf) := goodIn_app (goodIn_of _ (by decide +kernel)) ggX4_holesAreTold_X4_holesOf
theorem dX4_holesAreTold_0 : decode cX4_holesAreTold 0 = .ok (.aload_n 0, 1) := by decide +kernel
theorem dX4_holesAreTold_1 : decode cX4_holesAreTold 1 = .ok (.iload_n 1, 1) := by decide +kernel
theorem dX4_holesAreTold_2 : decode cX4_holesAreTold 2 = .ok (.invokevirtual 125, 3) := by decide +kernel
theorem dX4_holesAreTold_5 : decode cX4_holesAreTold 5 = .ok (.iconst (-1), 1) := by decide +kernel
theorem dX4_holesAreTold_6 : decode cX4_holesAreTold 6 = .ok (.if_icmp .eq 7, 3) := by decide +kernel
theorem dX4_holesAreTold_9 : decode cX4_holesAreTold 9 = .ok (.iconst 1, 1) := by decide +kernel
theorem dX4_holesAreTold_10 : decode cX4_holesAreTold 10 = .ok (.goto 4, 3) := by decide +kernel
theorem dX4_holesAreTold_13 : decode cX4_holesAreTold 13 = .ok (.iconst 0, 1) := by decide +kernel
theorem dX4_holesAreTold_14 : decode cX4_holesAreTold 14 = .ok (.ireturn, 1) := by decide +kernel
set_option maxRecDepth 20000 in
theorem ggX4_setsThatFit_X4_fits : GoodIn wsX4_setsThatFit wsX4_fits := goodIn_r _ [6, 7, 8, 9, 10, 11, 5, 12, 13, 14, 15, 16, 17, 18, 19, 20, 21, 22, 23, 24, 1, 25, 26, 27, 28, 29, 30, 31, 32, 33, 34, 35, 36, 37, 38, 39, 40, 41, 42, 43, 44, 45, 46, 47, 48, 49, 50, 51, 52, 53, 54, 55, 56, 57, 58] (by decide +kernel) (by decide +kernel)
set_option maxRecDepth 20000 in
theorem gX4_setsThatFit_X4_fits : GoodIn wsX4_setsThatFit (wsV RX4 128 RX4 yX4_fits wsX4_fits) := goodIn_app (goodIn_of _ (by decide +kernel)) ggX4_setsThatFit_X4_fits
theorem dX4_setsThatFit_0 : decode cX4_setsThatFit 0 = .ok (.iconst 0, 1) := by decide +kernel
theorem dX4_setsThatFit_1 : decode cX4_setsThatFit 1 = .ok (.istore_n 1, 1) := by decide +kernel
theorem dX4_setsThatFit_2 : decode cX4_setsThatFit 2 = .ok (.iconst 0, 1) := by decide +kernel
theorem dX4_setsThatFit_3 : decode cX4_setsThatFit 3 = .ok (.istore_n 2, 1) := by decide +kernel
theorem dX4_setsThatFit_4 : decode cX4_setsThatFit 4 = .ok (.iload_n 2, 1) := by decide +kernel
theorem dX4_setsThatFit_5 : decode cX4_setsThatFit 5 = .ok (.iconst 1, 1) := by decide +kernel
theorem dX4_setsThatFit_6 : decode cX4_setsThatFit 6 = .ok (.aload_n 0, 1) := by decide +kernel
theorem dX4_setsThatFit_7 : decode cX4_setsThatFit 7 = .ok (.getfield 43, 3) := by decide +kernel
theorem dX4_setsThatFit_10 : decode cX4_setsThatFit 10 = .ok (.ishl, 1) := by decide +kernel
theorem dX4_setsThatFit_11 : decode cX4_setsThatFit 11 = .ok (.if_icmp .ge 20, 3) := by decide +kernel
theorem dX4_setsThatFit_14 : decode cX4_setsThatFit 14 = .ok (.aload_n 0, 1) := by decide +kernel
theorem dX4_setsThatFit_15 : decode cX4_setsThatFit 15 = .ok (.iload_n 2, 1) := by decide +kernel
theorem dX4_setsThatFit_16 : decode cX4_setsThatFit 16 = .ok (.invokevirtual 128, 3) := by decide +kernel
theorem dX4_setsThatFit_19 : decode cX4_setsThatFit 19 = .ok (.ifCond .eq 6, 3) := by decide +kernel
theorem dX4_setsThatFit_22 : decode cX4_setsThatFit 22 = .ok (.iinc 1 1, 3) := by decide +kernel
theorem dX4_setsThatFit_25 : decode cX4_setsThatFit 25 = .ok (.iinc 2 1, 3) := by decide +kernel
theorem dX4_setsThatFit_28 : decode cX4_setsThatFit 28 = .ok (.goto (-24), 3) := by decide +kernel
theorem dX4_setsThatFit_31 : decode cX4_setsThatFit 31 = .ok (.iload_n 1, 1) := by decide +kernel
theorem dX4_setsThatFit_32 : decode cX4_setsThatFit 32 = .ok (.ireturn, 1) := by decide +kernel
set_option maxRecDepth 20000 in
theorem ggX4_leastSet_X4_fits : GoodIn wsX4_leastSet wsX4_fits := goodIn_r _ [6, 7, 8, 9, 10, 11, 5, 12, 13, 14, 15, 16, 17, 18, 19, 20, 21, 22, 23, 24, 1, 25, 26, 27, 28, 29, 30, 31, 32, 33, 34, 35, 36, 37, 38, 39, 40, 41, 42, 43, 44, 45, 46, 47, 48, 49, 50, 51, 52, 53, 54, 55, 56, 57, 58] (by decide +kernel) (by decide +kernel)
set_option maxRecDepth 20000 in
theorem gX4_leastSet_X4_fits : GoodIn wsX4_leastSet (wsV RX4 128 RX4 yX4_fits wsX4_fits) := goodIn_app (goodIn_of _ (by decide +kernel)) ggX4_leastSet_X4_fits
theorem dX4_leastSet_0 : decode cX4_leastSet 0 = .ok (.iconst 0, 1) := by decide +kernel
theorem dX4_leastSet_1 : decode cX4_leastSet 1 = .ok (.istore_n 1, 1) := by decide +kernel
theorem dX4_leastSet_2 : decode cX4_leastSet 2 = .ok (.iload_n 1, 1) := by decide +kernel
theorem dX4_leastSet_3 : decode cX4_leastSet 3 = .ok (.iconst 1, 1) := by decide +kernel
theorem dX4_leastSet_4 : decode cX4_leastSet 4 = .ok (.aload_n 0, 1) := by decide +kernel
theorem dX4_leastSet_5 : decode cX4_leastSet 5 = .ok (.getfield 43, 3) := by decide +kernel
theorem dX4_leastSet_8 : decode cX4_leastSet 8 = .ok (.ishl, 1) := by decide +kernel
theorem dX4_leastSet_9 : decode cX4_leastSet 9 = .ok (.if_icmp .ge 19, 3) := by decide +kernel
theorem dX4_leastSet_12 : decode cX4_leastSet 12 = .ok (.aload_n 0, 1) := by decide +kernel
theorem dX4_leastSet_13 : decode cX4_leastSet 13 = .ok (.iload_n 1, 1) := by decide +kernel
theorem dX4_leastSet_14 : decode cX4_leastSet 14 = .ok (.invokevirtual 128, 3) := by decide +kernel
theorem dX4_leastSet_17 : decode cX4_leastSet 17 = .ok (.ifCond .eq 5, 3) := by decide +kernel
theorem dX4_leastSet_20 : decode cX4_leastSet 20 = .ok (.iload_n 1, 1) := by decide +kernel
theorem dX4_leastSet_21 : decode cX4_leastSet 21 = .ok (.ireturn, 1) := by decide +kernel
theorem dX4_leastSet_22 : decode cX4_leastSet 22 = .ok (.iinc 1 1, 3) := by decide +kernel
theorem dX4_leastSet_25 : decode cX4_leastSet 25 = .ok (.goto (-23), 3) := by decide +kernel
theorem dX4_leastSet_28 : decode cX4_leastSet 28 = .ok (.iconst (-1), 1) := by decide +kernel
theorem dX4_leastSet_29 : decode cX4_leastSet 29 = .ok (.ireturn, 1) := by decide +kernel
set_option maxRecDepth 20000 in
theorem ggX4_fits_X4_holesAreTold : GoodIn wsX4_fits wsX4_holesAreTold := goodIn_r _ [7, 8, 9, 10, 6, 11, 2, 12, 13, 14, 15, 1, 41, 42, 43, 44, 45, 46, 47, 48, 49, 50, 51, 52, 53, 54] (by decide +kernel) (by decide +kernel)
set_option maxRecDepth 20000 in
theorem gX4_fits_X4_holesAreTold : GoodIn wsX4_fits (wsV RX4 131 RX4 yX4_holesAreTold wsX4_holesAreTold) := goodIn_app (goodIn_of _ (by decide +kernel)) ggX4_fits_X4_holesAreTold
set_option maxRecDepth 20000 in
theorem ggX4_fits_X4_holesBy : GoodIn wsX4_fits wsX4_holesBy := goodIn_r _ [19, 20, 21, 22, 23, 6, 24, 25, 12, 13, 14, 15, 1, 26, 27, 28, 29, 30, 31, 32, 33, 34, 35, 36, 37, 38, 39, 40, 41, 42, 43, 44, 45, 46, 47, 48, 49, 50, 51, 52, 53, 54] (by decide +kernel) (by decide +kernel)
set_option maxRecDepth 20000 in
theorem gX4_fits_X4_holesBy : GoodIn wsX4_fits (wsV RX4 134 RX4 yX4_holesBy wsX4_holesBy) := goodIn_app (goodIn_of _ (by decide +kernel)) ggX4_fits_X4_holesBy
theorem dX4_fits_0 : decode cX4_fits 0 = .ok (.iconst 0, 1) := by decide +kernel
theorem dX4_fits_1 : decode cX4_fits 1 = .ok (.istore_n 2, 1) := by decide +kernel
theorem dX4_fits_2 : decode cX4_fits 2 = .ok (.iload_n 2, 1) := by decide +kernel
theorem dX4_fits_3 : decode cX4_fits 3 = .ok (.aload_n 0, 1) := by decide +kernel
theorem dX4_fits_4 : decode cX4_fits 4 = .ok (.getfield 39, 3) := by decide +kernel
theorem dX4_fits_7 : decode cX4_fits 7 = .ok (.if_icmp .ge 34, 3) := by decide +kernel
theorem dX4_fits_10 : decode cX4_fits 10 = .ok (.aload_n 0, 1) := by decide +kernel
theorem dX4_fits_11 : decode cX4_fits 11 = .ok (.iload_n 2, 1) := by decide +kernel
theorem dX4_fits_12 : decode cX4_fits 12 = .ok (.invokevirtual 131, 3) := by decide +kernel
theorem dX4_fits_15 : decode cX4_fits 15 = .ok (.ifCond .eq 20, 3) := by decide +kernel
theorem dX4_fits_18 : decode cX4_fits 18 = .ok (.aload_n 0, 1) := by decide +kernel
theorem dX4_fits_19 : decode cX4_fits 19 = .ok (.iload_n 1, 1) := by decide +kernel
theorem dX4_fits_20 : decode cX4_fits 20 = .ok (.iload_n 2, 1) := by decide +kernel
theorem dX4_fits_21 : decode cX4_fits 21 = .ok (.invokevirtual 134, 3) := by decide +kernel
theorem dX4_fits_24 : decode cX4_fits 24 = .ok (.aload_n 0, 1) := by decide +kernel
theorem dX4_fits_25 : decode cX4_fits 25 = .ok (.getfield 21, 3) := by decide +kernel
theorem dX4_fits_28 : decode cX4_fits 28 = .ok (.iload_n 2, 1) := by decide +kernel
theorem dX4_fits_29 : decode cX4_fits 29 = .ok (.iaload, 1) := by decide +kernel
theorem dX4_fits_30 : decode cX4_fits 30 = .ok (.if_icmp .eq 5, 3) := by decide +kernel
theorem dX4_fits_33 : decode cX4_fits 33 = .ok (.iconst 0, 1) := by decide +kernel
theorem dX4_fits_34 : decode cX4_fits 34 = .ok (.ireturn, 1) := by decide +kernel
theorem dX4_fits_35 : decode cX4_fits 35 = .ok (.iinc 2 1, 3) := by decide +kernel
theorem dX4_fits_38 : decode cX4_fits 38 = .ok (.goto (-36), 3) := by decide +kernel
theorem dX4_fits_41 : decode cX4_fits 41 = .ok (.iconst 1, 1) := by decide +kernel
theorem dX4_fits_42 : decode cX4_fits 42 = .ok (.ireturn, 1) := by decide +kernel
set_option maxRecDepth 20000 in
theorem ggX4_holesBy_X4_hunger : GoodIn wsX4_holesBy wsX4_hunger := goodIn_r _ [6, 7, 8, 9, 10, 5, 11, 12, 13, 14, 15, 16, 17, 18, 19, 20, 21, 22, 23, 1, 24, 25, 26, 27, 28, 29, 30, 31, 32, 33, 34, 35, 36, 37, 38, 39, 40, 41] (by decide +kernel) (by decide +kernel)
set_option maxRecDepth 20000 in
theorem gX4_holesBy_X4_hunger : GoodIn wsX4_holesBy (wsV RX4 92 RX4 yX4_hunger wsX4_hunger) := goodIn_app (goodIn_of _ (by decide +kernel)) ggX4_holesBy_X4_hunger
theorem dX4_holesBy_0 : decode cX4_holesBy 0 = .ok (.iconst 0, 1) := by decide +kernel
theorem dX4_holesBy_1 : decode cX4_holesBy 1 = .ok (.istore_n 3, 1) := by decide +kernel
theorem dX4_holesBy_2 : decode cX4_holesBy 2 = .ok (.iconst 0, 1) := by decide +kernel
theorem dX4_holesBy_3 : decode cX4_holesBy 3 = .ok (.istore 4, 2) := by decide +kernel
theorem dX4_holesBy_5 : decode cX4_holesBy 5 = .ok (.iload 4, 2) := by decide +kernel
theorem dX4_holesBy_7 : decode cX4_holesBy 7 = .ok (.aload_n 0, 1) := by decide +kernel
theorem dX4_holesBy_8 : decode cX4_holesBy 8 = .ok (.getfield 43, 3) := by decide +kernel
theorem dX4_holesBy_11 : decode cX4_holesBy 11 = .ok (.if_icmp .ge 31, 3) := by decide +kernel
theorem dX4_holesBy_14 : decode cX4_holesBy 14 = .ok (.iload_n 1, 1) := by decide +kernel
theorem dX4_holesBy_15 : decode cX4_holesBy 15 = .ok (.iload 4, 2) := by decide +kernel
theorem dX4_holesBy_17 : decode cX4_holesBy 17 = .ok (.ishr, 1) := by decide +kernel
theorem dX4_holesBy_18 : decode cX4_holesBy 18 = .ok (.iconst 1, 1) := by decide +kernel
theorem dX4_holesBy_19 : decode cX4_holesBy 19 = .ok (.iand, 1) := by decide +kernel
theorem dX4_holesBy_20 : decode cX4_holesBy 20 = .ok (.iconst 1, 1) := by decide +kernel
theorem dX4_holesBy_21 : decode cX4_holesBy 21 = .ok (.if_icmp .ne 15, 3) := by decide +kernel
theorem dX4_holesBy_24 : decode cX4_holesBy 24 = .ok (.iload_n 3, 1) := by decide +kernel
theorem dX4_holesBy_25 : decode cX4_holesBy 25 = .ok (.aload_n 0, 1) := by decide +kernel
theorem dX4_holesBy_26 : decode cX4_holesBy 26 = .ok (.iload 4, 2) := by decide +kernel
theorem dX4_holesBy_28 : decode cX4_holesBy 28 = .ok (.iload_n 2, 1) := by decide +kernel
theorem dX4_holesBy_29 : decode cX4_holesBy 29 = .ok (.invokevirtual 92, 3) := by decide +kernel
theorem dX4_holesBy_32 : decode cX4_holesBy 32 = .ok (.iconst 3, 1) := by decide +kernel
theorem dX4_holesBy_33 : decode cX4_holesBy 33 = .ok (.idiv, 1) := by decide +kernel
theorem dX4_holesBy_34 : decode cX4_holesBy 34 = .ok (.iadd, 1) := by decide +kernel
theorem dX4_holesBy_35 : decode cX4_holesBy 35 = .ok (.istore_n 3, 1) := by decide +kernel
theorem dX4_holesBy_36 : decode cX4_holesBy 36 = .ok (.iinc 4 1, 3) := by decide +kernel
theorem dX4_holesBy_39 : decode cX4_holesBy 39 = .ok (.goto (-34), 3) := by decide +kernel
theorem dX4_holesBy_42 : decode cX4_holesBy 42 = .ok (.iload_n 3, 1) := by decide +kernel
theorem dX4_holesBy_43 : decode cX4_holesBy 43 = .ok (.ireturn, 1) := by decide +kernel
set_option maxRecDepth 20000 in
theorem ggX4_mouthAt_X4_hunger : GoodIn wsX4_mouthAt wsX4_hunger := goodIn_r _ [6, 7, 8, 9, 10, 5, 11, 12, 13, 14, 15, 16, 17, 18, 19, 20, 21, 22, 23, 1, 24, 25, 26, 27, 28, 29, 30, 31, 32, 33, 34, 35, 36, 37, 38, 39, 40, 41] (by decide +kernel) (by decide +kernel)
set_option maxRecDepth 20000 in
theorem gX4_mouthAt_X4_hunger : GoodIn wsX4_mouthAt (wsV RX4 92 RX4 yX4_hunger wsX4_hunger) := goodIn_app (goodIn_of _ (by decide +kernel)) ggX4_mouthAt_X4_hunger
theorem dX4_mouthAt_0 : decode cX4_mouthAt 0 = .ok (.iload_n 2, 1) := by decide +kernel
theorem dX4_mouthAt_1 : decode cX4_mouthAt 1 = .ok (.istore 4, 2) := by decide +kernel
theorem dX4_mouthAt_3 : decode cX4_mouthAt 3 = .ok (.iconst 0, 1) := by decide +kernel
theorem dX4_mouthAt_4 : decode cX4_mouthAt 4 = .ok (.istore 5, 2) := by decide +kernel
theorem dX4_mouthAt_6 : decode cX4_mouthAt 6 = .ok (.iload 5, 2) := by decide +kernel
theorem dX4_mouthAt_8 : decode cX4_mouthAt 8 = .ok (.aload_n 0, 1) := by decide +kernel
theorem dX4_mouthAt_9 : decode cX4_mouthAt 9 = .ok (.getfield 43, 3) := by decide +kernel
theorem dX4_mouthAt_12 : decode cX4_mouthAt 12 = .ok (.if_icmp .ge 41, 3) := by decide +kernel
theorem dX4_mouthAt_15 : decode cX4_mouthAt 15 = .ok (.iload_n 3, 1) := by decide +kernel
theorem dX4_mouthAt_16 : decode cX4_mouthAt 16 = .ok (.iload 5, 2) := by decide +kernel
theorem dX4_mouthAt_18 : decode cX4_mouthAt 18 = .ok (.ishr, 1) := by decide +kernel
theorem dX4_mouthAt_19 : decode cX4_mouthAt 19 = .ok (.iconst 1, 1) := by decide +kernel
theorem dX4_mouthAt_20 : decode cX4_mouthAt 20 = .ok (.iand, 1) := by decide +kernel
theorem dX4_mouthAt_21 : decode cX4_mouthAt 21 = .ok (.iconst 1, 1) := by decide +kernel
theorem dX4_mouthAt_22 : decode cX4_mouthAt 22 = .ok (.if_icmp .ne 25, 3) := by decide +kernel
theorem dX4_mouthAt_25 : decode cX4_mouthAt 25 = .ok (.iload 4, 2) := by decide +kernel
theorem dX4_mouthAt_27 : decode cX4_mouthAt 27 = .ok (.aload_n 0, 1) := by decide +kernel
theorem dX4_mouthAt_28 : decode cX4_mouthAt 28 = .ok (.iload 5, 2) := by decide +kernel
theorem dX4_mouthAt_30 : decode cX4_mouthAt 30 = .ok (.iload_n 1, 1) := by decide +kernel
theorem dX4_mouthAt_31 : decode cX4_mouthAt 31 = .ok (.invokevirtual 92, 3) := by decide +kernel
theorem dX4_mouthAt_34 : decode cX4_mouthAt 34 = .ok (.iconst 3, 1) := by decide +kernel
theorem dX4_mouthAt_35 : decode cX4_mouthAt 35 = .ok (.idiv, 1) := by decide +kernel
theorem dX4_mouthAt_36 : decode cX4_mouthAt 36 = .ok (.isub, 1) := by decide +kernel
theorem dX4_mouthAt_37 : decode cX4_mouthAt 37 = .ok (.istore 4, 2) := by decide +kernel
theorem dX4_mouthAt_39 : decode cX4_mouthAt 39 = .ok (.iload 4, 2) := by decide +kernel
theorem dX4_mouthAt_41 : decode cX4_mouthAt 41 = .ok (.ifCond .ge 6, 3) := by decide +kernel
theorem dX4_mouthAt_44 : decode cX4_mouthAt 44 = .ok (.iload 5, 2) := by decide +kernel
theorem dX4_mouthAt_46 : decode cX4_mouthAt 46 = .ok (.ireturn, 1) := by decide +kernel
theorem dX4_mouthAt_47 : decode cX4_mouthAt 47 = .ok (.iinc 5 1, 3) := by decide +kernel
theorem dX4_mouthAt_50 : decode cX4_mouthAt 50 = .ok (.goto (-44), 3) := by decide +kernel
theorem dX4_mouthAt_53 : decode cX4_mouthAt 53 = .ok (.iconst (-1), 1) := by decide +kernel
theorem dX4_mouthAt_54 : decode cX4_mouthAt 54 = .ok (.ireturn, 1) := by decide +kernel
set_option maxRecDepth 20000 in
theorem ggX4_mostHoles_X4_holesOf : GoodIn wsX4_mostHoles wsX4_holesOf := goodIn_r _ [6, 7, 8, 9, 10, 5, 11, 1, 12, 13, 14, 15, 16, 17, 18, 19, 20, 21, 22, 23, 24, 25] (by decide +kernel) (by decide +kernel)
set_option maxRecDepth 20000 in
theorem gX4_mostHoles_X4_holesOf : GoodIn wsX4_mostHoles (wsV RX4 125 RX4 yX4_holesOf wsX4_holesOf) := goodIn_app (goodIn_of _ (by decide +kernel)) ggX4_mostHoles_X4_holesOf
theorem dX4_mostHoles_0 : decode cX4_mostHoles 0 = .ok (.iconst (-1), 1) := by decide +kernel
theorem dX4_mostHoles_1 : decode cX4_mostHoles 1 = .ok (.istore_n 2, 1) := by decide +kernel
theorem dX4_mostHoles_2 : decode cX4_mostHoles 2 = .ok (.iconst 0, 1) := by decide +kernel
theorem dX4_mostHoles_3 : decode cX4_mostHoles 3 = .ok (.istore_n 3, 1) := by decide +kernel
theorem dX4_mostHoles_4 : decode cX4_mostHoles 4 = .ok (.iload_n 3, 1) := by decide +kernel
theorem dX4_mostHoles_5 : decode cX4_mostHoles 5 = .ok (.aload_n 0, 1) := by decide +kernel
theorem dX4_mostHoles_6 : decode cX4_mostHoles 6 = .ok (.getfield 39, 3) := by decide +kernel
theorem dX4_mostHoles_9 : decode cX4_mostHoles 9 = .ok (.if_icmp .ge 32, 3) := by decide +kernel
theorem dX4_mostHoles_12 : decode cX4_mostHoles 12 = .ok (.iload_n 1, 1) := by decide +kernel
theorem dX4_mostHoles_13 : decode cX4_mostHoles 13 = .ok (.iload_n 3, 1) := by decide +kernel
theorem dX4_mostHoles_14 : decode cX4_mostHoles 14 = .ok (.ishr, 1) := by decide +kernel
theorem dX4_mostHoles_15 : decode cX4_mostHoles 15 = .ok (.iconst 1, 1) := by decide +kernel
theorem dX4_mostHoles_16 : decode cX4_mostHoles 16 = .ok (.iand, 1) := by decide +kernel
theorem dX4_mostHoles_17 : decode cX4_mostHoles 17 = .ok (.ifCond .ne 18, 3) := by decide +kernel
theorem dX4_mostHoles_20 : decode cX4_mostHoles 20 = .ok (.aload_n 0, 1) := by decide +kernel
theorem dX4_mostHoles_21 : decode cX4_mostHoles 21 = .ok (.iload_n 3, 1) := by decide +kernel
theorem dX4_mostHoles_22 : decode cX4_mostHoles 22 = .ok (.invokevirtual 125, 3) := by decide +kernel
theorem dX4_mostHoles_25 : decode cX4_mostHoles 25 = .ok (.aload_n 0, 1) := by decide +kernel
theorem dX4_mostHoles_26 : decode cX4_mostHoles 26 = .ok (.iload_n 2, 1) := by decide +kernel
theorem dX4_mostHoles_27 : decode cX4_mostHoles 27 = .ok (.invokevirtual 125, 3) := by decide +kernel
theorem dX4_mostHoles_30 : decode cX4_mostHoles 30 = .ok (.if_icmp .le 5, 3) := by decide +kernel
theorem dX4_mostHoles_33 : decode cX4_mostHoles 33 = .ok (.iload_n 3, 1) := by decide +kernel
theorem dX4_mostHoles_34 : decode cX4_mostHoles 34 = .ok (.istore_n 2, 1) := by decide +kernel
theorem dX4_mostHoles_35 : decode cX4_mostHoles 35 = .ok (.iinc 3 1, 3) := by decide +kernel
theorem dX4_mostHoles_38 : decode cX4_mostHoles 38 = .ok (.goto (-34), 3) := by decide +kernel
theorem dX4_mostHoles_41 : decode cX4_mostHoles 41 = .ok (.iload_n 2, 1) := by decide +kernel
theorem dX4_mostHoles_42 : decode cX4_mostHoles 42 = .ok (.ireturn, 1) := by decide +kernel
set_option maxRecDepth 20000 in
theorem ggX4_cedarFor_X4_greatestHunger : GoodIn wsX4_cedarFor wsX4_greatestHunger := goodIn_r _ [7, 8, 9, 10, 11, 12, 13, 14, 15, 6, 16, 17, 18, 19, 20, 21, 22, 23, 24, 25, 26, 27, 1, 28, 29, 30, 31, 32, 33, 34, 35, 36, 37, 38, 39, 40, 41, 42, 43, 44, 45] (by decide +kernel) (by decide +kernel)
set_option maxRecDepth 20000 in
theorem gX4_cedarFor_X4_greatestHunger : GoodIn wsX4_cedarFor (wsV RX4 137 RX4 yX4_greatestHunger wsX4_greatestHunger) := goodIn_app (goodIn_of _ (by decide +kernel)) ggX4_cedarFor_X4_greatestHunger
theorem dX4_cedarFor_0 : decode cX4_cedarFor 0 = .ok (.iconst 0, 1) := by decide +kernel
theorem dX4_cedarFor_1 : decode cX4_cedarFor 1 = .ok (.istore_n 2, 1) := by decide +kernel
theorem dX4_cedarFor_2 : decode cX4_cedarFor 2 = .ok (.iconst 0, 1) := by decide +kernel
theorem dX4_cedarFor_3 : decode cX4_cedarFor 3 = .ok (.istore_n 3, 1) := by decide +kernel
theorem dX4_cedarFor_4 : decode cX4_cedarFor 4 = .ok (.iload_n 3, 1) := by decide +kernel
theorem dX4_cedarFor_5 : decode cX4_cedarFor 5 = .ok (.aload_n 0, 1) := by decide +kernel
theorem dX4_cedarFor_6 : decode cX4_cedarFor 6 = .ok (.getfield 39, 3) := by decide +kernel
theorem dX4_cedarFor_9 : decode cX4_cedarFor 9 = .ok (.if_icmp .ge 42, 3) := by decide +kernel
theorem dX4_cedarFor_12 : decode cX4_cedarFor 12 = .ok (.aload_n 0, 1) := by decide +kernel
theorem dX4_cedarFor_13 : decode cX4_cedarFor 13 = .ok (.iload_n 3, 1) := by decide +kernel
theorem dX4_cedarFor_14 : decode cX4_cedarFor 14 = .ok (.aload_n 0, 1) := by decide +kernel
theorem dX4_cedarFor_15 : decode cX4_cedarFor 15 = .ok (.getfield 15, 3) := by decide +kernel
theorem dX4_cedarFor_18 : decode cX4_cedarFor 18 = .ok (.iload_n 3, 1) := by decide +kernel
theorem dX4_cedarFor_19 : decode cX4_cedarFor 19 = .ok (.iaload, 1) := by decide +kernel
theorem dX4_cedarFor_20 : decode cX4_cedarFor 20 = .ok (.invokevirtual 137, 3) := by decide +kernel
theorem dX4_cedarFor_23 : decode cX4_cedarFor 23 = .ok (.iload_n 1, 1) := by decide +kernel
theorem dX4_cedarFor_24 : decode cX4_cedarFor 24 = .ok (.if_icmp .le 21, 3) := by decide +kernel
theorem dX4_cedarFor_27 : decode cX4_cedarFor 27 = .ok (.aload_n 0, 1) := by decide +kernel
theorem dX4_cedarFor_28 : decode cX4_cedarFor 28 = .ok (.iload_n 3, 1) := by decide +kernel
theorem dX4_cedarFor_29 : decode cX4_cedarFor 29 = .ok (.iconst 3, 1) := by decide +kernel
theorem dX4_cedarFor_30 : decode cX4_cedarFor 30 = .ok (.invokevirtual 137, 3) := by decide +kernel
theorem dX4_cedarFor_33 : decode cX4_cedarFor 33 = .ok (.iload_n 1, 1) := by decide +kernel
theorem dX4_cedarFor_34 : decode cX4_cedarFor 34 = .ok (.if_icmp .le 5, 3) := by decide +kernel
theorem dX4_cedarFor_37 : decode cX4_cedarFor 37 = .ok (.iconst (-1), 1) := by decide +kernel
theorem dX4_cedarFor_38 : decode cX4_cedarFor 38 = .ok (.ireturn, 1) := by decide +kernel
theorem dX4_cedarFor_39 : decode cX4_cedarFor 39 = .ok (.iload_n 2, 1) := by decide +kernel
theorem dX4_cedarFor_40 : decode cX4_cedarFor 40 = .ok (.iconst 1, 1) := by decide +kernel
theorem dX4_cedarFor_41 : decode cX4_cedarFor 41 = .ok (.iload_n 3, 1) := by decide +kernel
theorem dX4_cedarFor_42 : decode cX4_cedarFor 42 = .ok (.ishl, 1) := by decide +kernel
theorem dX4_cedarFor_43 : decode cX4_cedarFor 43 = .ok (.ior, 1) := by decide +kernel
theorem dX4_cedarFor_44 : decode cX4_cedarFor 44 = .ok (.istore_n 2, 1) := by decide +kernel
theorem dX4_cedarFor_45 : decode cX4_cedarFor 45 = .ok (.iinc 3 1, 3) := by decide +kernel
theorem dX4_cedarFor_48 : decode cX4_cedarFor 48 = .ok (.goto (-44), 3) := by decide +kernel
theorem dX4_cedarFor_51 : decode cX4_cedarFor 51 = .ok (.iload_n 2, 1) := by decide +kernel
theorem dX4_cedarFor_52 : decode cX4_cedarFor 52 = .ok (.ireturn, 1) := by decide +kernel
set_option maxRecDepth 20000 in
theorem ggX4_greatestHunger_X4_hungerAt : GoodIn wsX4_greatestHunger wsX4_hungerAt := goodIn_r _ [10, 11, 12, 13, 14, 15, 16, 9, 17, 1, 18, 19, 20, 21, 22, 23, 24, 25, 26, 27, 28, 29, 30, 31, 32, 33, 34, 35, 36, 37, 38, 39, 40] (by decide +kernel) (by decide +kernel)
set_option maxRecDepth 20000 in
theorem gX4_greatestHunger_X4_hungerAt : GoodIn wsX4_greatestHunger (wsV RX4 81 RX4 yX4_hungerAt wsX4_hungerAt) := goodIn_app (goodIn_of _ (by decide +kernel)) ggX4_greatestHunger_X4_hungerAt
theorem dX4_greatestHunger_0 : decode cX4_greatestHunger 0 = .ok (.iconst 0, 1) := by decide +kernel
theorem dX4_greatestHunger_1 : decode cX4_greatestHunger 1 = .ok (.istore_n 3, 1) := by decide +kernel
theorem dX4_greatestHunger_2 : decode cX4_greatestHunger 2 = .ok (.iconst 0, 1) := by decide +kernel
theorem dX4_greatestHunger_3 : decode cX4_greatestHunger 3 = .ok (.istore 4, 2) := by decide +kernel
theorem dX4_greatestHunger_5 : decode cX4_greatestHunger 5 = .ok (.iload 4, 2) := by decide +kernel
theorem dX4_greatestHunger_7 : decode cX4_greatestHunger 7 = .ok (.aload_n 0, 1) := by decide +kernel
theorem dX4_greatestHunger_8 : decode cX4_greatestHunger 8 = .ok (.getfield 43, 3) := by decide +kernel
theorem dX4_greatestHunger_11 : decode cX4_greatestHunger 11 = .ok (.if_icmp .ge 22, 3) := by decide +kernel
theorem dX4_greatestHunger_14 : decode cX4_greatestHunger 14 = .ok (.iload_n 3, 1) := by decide +kernel
theorem dX4_greatestHunger_15 : decode cX4_greatestHunger 15 = .ok (.aload_n 0, 1) := by decide +kernel
theorem dX4_greatestHunger_16 : decode cX4_greatestHunger 16 = .ok (.iload 4, 2) := by decide +kernel
theorem dX4_greatestHunger_18 : decode cX4_greatestHunger 18 = .ok (.iload_n 1, 1) := by decide +kernel
theorem dX4_greatestHunger_19 : decode cX4_greatestHunger 19 = .ok (.iload_n 2, 1) := by decide +kernel
theorem dX4_greatestHunger_20 : decode cX4_greatestHunger 20 = .ok (.invokevirtual 81, 3) := by decide +kernel
theorem dX4_greatestHunger_23 : decode cX4_greatestHunger 23 = .ok (.invokestatic 108, 3) := by decide +kernel
theorem dX4_greatestHunger_26 : decode cX4_greatestHunger 26 = .ok (.istore_n 3, 1) := by decide +kernel
theorem dX4_greatestHunger_27 : decode cX4_greatestHunger 27 = .ok (.iinc 4 1, 3) := by decide +kernel
theorem dX4_greatestHunger_30 : decode cX4_greatestHunger 30 = .ok (.goto (-25), 3) := by decide +kernel
theorem dX4_greatestHunger_33 : decode cX4_greatestHunger 33 = .ok (.iload_n 3, 1) := by decide +kernel
theorem dX4_greatestHunger_34 : decode cX4_greatestHunger 34 = .ok (.ireturn, 1) := by decide +kernel
set_option maxRecDepth 20000 in
theorem ggX4_foldInto_X4_moodNow : GoodIn wsX4_foldInto wsX4_moodNow := goodIn_r _ [19, 13, 20, 12, 21, 22, 23, 24, 25, 26, 27, 28, 29, 30, 31, 32, 33, 34] (by decide +kernel) (by decide +kernel)
set_option maxRecDepth 20000 in
theorem gX4_foldInto_X4_moodNow : GoodIn wsX4_foldInto (wsV RX4 95 RX4 yX4_moodNow wsX4_moodNow) := goodIn_app (goodIn_of _ (by decide +kernel)) ggX4_foldInto_X4_moodNow
theorem dX4_foldInto_0 : decode cX4_foldInto 0 = .ok (.lload_n 1, 1) := by decide +kernel
theorem dX4_foldInto_1 : decode cX4_foldInto 1 = .ok (.lstore_n 3, 1) := by decide +kernel
theorem dX4_foldInto_2 : decode cX4_foldInto 2 = .ok (.iconst 0, 1) := by decide +kernel
theorem dX4_foldInto_3 : decode cX4_foldInto 3 = .ok (.istore 5, 2) := by decide +kernel
theorem dX4_foldInto_5 : decode cX4_foldInto 5 = .ok (.iload 5, 2) := by decide +kernel
theorem dX4_foldInto_7 : decode cX4_foldInto 7 = .ok (.aload_n 0, 1) := by decide +kernel
theorem dX4_foldInto_8 : decode cX4_foldInto 8 = .ok (.getfield 39, 3) := by decide +kernel
theorem dX4_foldInto_11 : decode cX4_foldInto 11 = .ok (.if_icmp .ge 69, 3) := by decide +kernel
theorem dX4_foldInto_14 : decode cX4_foldInto 14 = .ok (.ldc2_w 140, 3) := by decide +kernel
theorem dX4_foldInto_17 : decode cX4_foldInto 17 = .ok (.lload_n 3, 1) := by decide +kernel
theorem dX4_foldInto_18 : decode cX4_foldInto 18 = .ok (.lmul, 1) := by decide +kernel
theorem dX4_foldInto_19 : decode cX4_foldInto 19 = .ok (.aload_n 0, 1) := by decide +kernel
theorem dX4_foldInto_20 : decode cX4_foldInto 20 = .ok (.getfield 9, 3) := by decide +kernel
theorem dX4_foldInto_23 : decode cX4_foldInto 23 = .ok (.iload 5, 2) := by decide +kernel
theorem dX4_foldInto_25 : decode cX4_foldInto 25 = .ok (.iaload, 1) := by decide +kernel
theorem dX4_foldInto_26 : decode cX4_foldInto 26 = .ok (.i2l, 1) := by decide +kernel
theorem dX4_foldInto_27 : decode cX4_foldInto 27 = .ok (.ladd, 1) := by decide +kernel
theorem dX4_foldInto_28 : decode cX4_foldInto 28 = .ok (.lstore_n 3, 1) := by decide +kernel
theorem dX4_foldInto_29 : decode cX4_foldInto 29 = .ok (.ldc2_w 140, 3) := by decide +kernel
theorem dX4_foldInto_32 : decode cX4_foldInto 32 = .ok (.lload_n 3, 1) := by decide +kernel
theorem dX4_foldInto_33 : decode cX4_foldInto 33 = .ok (.lmul, 1) := by decide +kernel
theorem dX4_foldInto_34 : decode cX4_foldInto 34 = .ok (.aload_n 0, 1) := by decide +kernel
theorem dX4_foldInto_35 : decode cX4_foldInto 35 = .ok (.getfield 15, 3) := by decide +kernel
theorem dX4_foldInto_38 : decode cX4_foldInto 38 = .ok (.iload 5, 2) := by decide +kernel
theorem dX4_foldInto_40 : decode cX4_foldInto 40 = .ok (.iaload, 1) := by decide +kernel
theorem dX4_foldInto_41 : decode cX4_foldInto 41 = .ok (.i2l, 1) := by decide +kernel
theorem dX4_foldInto_42 : decode cX4_foldInto 42 = .ok (.ladd, 1) := by decide +kernel
theorem dX4_foldInto_43 : decode cX4_foldInto 43 = .ok (.lstore_n 3, 1) := by decide +kernel
theorem dX4_foldInto_44 : decode cX4_foldInto 44 = .ok (.ldc2_w 140, 3) := by decide +kernel
theorem dX4_foldInto_47 : decode cX4_foldInto 47 = .ok (.lload_n 3, 1) := by decide +kernel
theorem dX4_foldInto_48 : decode cX4_foldInto 48 = .ok (.lmul, 1) := by decide +kernel
theorem dX4_foldInto_49 : decode cX4_foldInto 49 = .ok (.aload_n 0, 1) := by decide +kernel
theorem dX4_foldInto_50 : decode cX4_foldInto 50 = .ok (.getfield 18, 3) := by decide +kernel
theorem dX4_foldInto_53 : decode cX4_foldInto 53 = .ok (.iload 5, 2) := by decide +kernel
theorem dX4_foldInto_55 : decode cX4_foldInto 55 = .ok (.iaload, 1) := by decide +kernel
theorem dX4_foldInto_56 : decode cX4_foldInto 56 = .ok (.i2l, 1) := by decide +kernel
theorem dX4_foldInto_57 : decode cX4_foldInto 57 = .ok (.ladd, 1) := by decide +kernel
theorem dX4_foldInto_58 : decode cX4_foldInto 58 = .ok (.lstore_n 3, 1) := by decide +kernel
theorem dX4_foldInto_59 : decode cX4_foldInto 59 = .ok (.ldc2_w 140, 3) := by decide +kernel
theorem dX4_foldInto_62 : decode cX4_foldInto 62 = .ok (.lload_n 3, 1) := by decide +kernel
theorem dX4_foldInto_63 : decode cX4_foldInto 63 = .ok (.lmul, 1) := by decide +kernel
theorem dX4_foldInto_64 : decode cX4_foldInto 64 = .ok (.aload_n 0, 1) := by decide +kernel
theorem dX4_foldInto_65 : decode cX4_foldInto 65 = .ok (.getfield 21, 3) := by decide +kernel
theorem dX4_foldInto_68 : decode cX4_foldInto 68 = .ok (.iload 5, 2) := by decide +kernel
theorem dX4_foldInto_70 : decode cX4_foldInto 70 = .ok (.iaload, 1) := by decide +kernel
theorem dX4_foldInto_71 : decode cX4_foldInto 71 = .ok (.i2l, 1) := by decide +kernel
theorem dX4_foldInto_72 : decode cX4_foldInto 72 = .ok (.ladd, 1) := by decide +kernel
theorem dX4_foldInto_73 : decode cX4_foldInto 73 = .ok (.lstore_n 3, 1) := by decide +kernel
theorem dX4_foldInto_74 : decode cX4_foldInto 74 = .ok (.iinc 5 1, 3) := by decide +kernel
theorem dX4_foldInto_77 : decode cX4_foldInto 77 = .ok (.goto (-72), 3) := by decide +kernel
theorem dX4_foldInto_80 : decode cX4_foldInto 80 = .ok (.iconst 0, 1) := by decide +kernel
theorem dX4_foldInto_81 : decode cX4_foldInto 81 = .ok (.istore 5, 2) := by decide +kernel
theorem dX4_foldInto_83 : decode cX4_foldInto 83 = .ok (.iload 5, 2) := by decide +kernel
theorem dX4_foldInto_85 : decode cX4_foldInto 85 = .ok (.aload_n 0, 1) := by decide +kernel
theorem dX4_foldInto_86 : decode cX4_foldInto 86 = .ok (.getfield 43, 3) := by decide +kernel
theorem dX4_foldInto_89 : decode cX4_foldInto 89 = .ok (.if_icmp .ge 24, 3) := by decide +kernel
theorem dX4_foldInto_92 : decode cX4_foldInto 92 = .ok (.ldc2_w 140, 3) := by decide +kernel
theorem dX4_foldInto_95 : decode cX4_foldInto 95 = .ok (.lload_n 3, 1) := by decide +kernel
theorem dX4_foldInto_96 : decode cX4_foldInto 96 = .ok (.lmul, 1) := by decide +kernel
theorem dX4_foldInto_97 : decode cX4_foldInto 97 = .ok (.aload_n 0, 1) := by decide +kernel
theorem dX4_foldInto_98 : decode cX4_foldInto 98 = .ok (.getfield 24, 3) := by decide +kernel
theorem dX4_foldInto_101 : decode cX4_foldInto 101 = .ok (.iload 5, 2) := by decide +kernel
theorem dX4_foldInto_103 : decode cX4_foldInto 103 = .ok (.iaload, 1) := by decide +kernel
theorem dX4_foldInto_104 : decode cX4_foldInto 104 = .ok (.i2l, 1) := by decide +kernel
theorem dX4_foldInto_105 : decode cX4_foldInto 105 = .ok (.ladd, 1) := by decide +kernel
theorem dX4_foldInto_106 : decode cX4_foldInto 106 = .ok (.lstore_n 3, 1) := by decide +kernel
theorem dX4_foldInto_107 : decode cX4_foldInto 107 = .ok (.iinc 5 1, 3) := by decide +kernel
theorem dX4_foldInto_110 : decode cX4_foldInto 110 = .ok (.goto (-27), 3) := by decide +kernel
theorem dX4_foldInto_113 : decode cX4_foldInto 113 = .ok (.iconst 0, 1) := by decide +kernel
theorem dX4_foldInto_114 : decode cX4_foldInto 114 = .ok (.istore 5, 2) := by decide +kernel
theorem dX4_foldInto_116 : decode cX4_foldInto 116 = .ok (.iload 5, 2) := by decide +kernel
theorem dX4_foldInto_118 : decode cX4_foldInto 118 = .ok (.aload_n 0, 1) := by decide +kernel
theorem dX4_foldInto_119 : decode cX4_foldInto 119 = .ok (.getfield 27, 3) := by decide +kernel
theorem dX4_foldInto_122 : decode cX4_foldInto 122 = .ok (.arraylength, 1) := by decide +kernel
theorem dX4_foldInto_123 : decode cX4_foldInto 123 = .ok (.if_icmp .ge 24, 3) := by decide +kernel
theorem dX4_foldInto_126 : decode cX4_foldInto 126 = .ok (.ldc2_w 140, 3) := by decide +kernel
theorem dX4_foldInto_129 : decode cX4_foldInto 129 = .ok (.lload_n 3, 1) := by decide +kernel
theorem dX4_foldInto_130 : decode cX4_foldInto 130 = .ok (.lmul, 1) := by decide +kernel
theorem dX4_foldInto_131 : decode cX4_foldInto 131 = .ok (.aload_n 0, 1) := by decide +kernel
theorem dX4_foldInto_132 : decode cX4_foldInto 132 = .ok (.getfield 27, 3) := by decide +kernel
theorem dX4_foldInto_135 : decode cX4_foldInto 135 = .ok (.iload 5, 2) := by decide +kernel
theorem dX4_foldInto_137 : decode cX4_foldInto 137 = .ok (.iaload, 1) := by decide +kernel
theorem dX4_foldInto_138 : decode cX4_foldInto 138 = .ok (.i2l, 1) := by decide +kernel
theorem dX4_foldInto_139 : decode cX4_foldInto 139 = .ok (.ladd, 1) := by decide +kernel
theorem dX4_foldInto_140 : decode cX4_foldInto 140 = .ok (.lstore_n 3, 1) := by decide +kernel
theorem dX4_foldInto_141 : decode cX4_foldInto 141 = .ok (.iinc 5 1, 3) := by decide +kernel
theorem dX4_foldInto_144 : decode cX4_foldInto 144 = .ok (.goto (-28), 3) := by decide +kernel
theorem dX4_foldInto_147 : decode cX4_foldInto 147 = .ok (.ldc2_w 140, 3) := by decide +kernel
theorem dX4_foldInto_150 : decode cX4_foldInto 150 = .ok (.lload_n 3, 1) := by decide +kernel
theorem dX4_foldInto_151 : decode cX4_foldInto 151 = .ok (.lmul, 1) := by decide +kernel
theorem dX4_foldInto_152 : decode cX4_foldInto 152 = .ok (.aload_n 0, 1) := by decide +kernel
theorem dX4_foldInto_153 : decode cX4_foldInto 153 = .ok (.getfield 46, 3) := by decide +kernel
theorem dX4_foldInto_156 : decode cX4_foldInto 156 = .ok (.i2l, 1) := by decide +kernel
theorem dX4_foldInto_157 : decode cX4_foldInto 157 = .ok (.ladd, 1) := by decide +kernel
theorem dX4_foldInto_158 : decode cX4_foldInto 158 = .ok (.lstore_n 3, 1) := by decide +kernel
theorem dX4_foldInto_159 : decode cX4_foldInto 159 = .ok (.ldc2_w 140, 3) := by decide +kernel
theorem dX4_foldInto_162 : decode cX4_foldInto 162 = .ok (.lload_n 3, 1) := by decide +kernel
theorem dX4_foldInto_163 : decode cX4_foldInto 163 = .ok (.lmul, 1) := by decide +kernel
theorem dX4_foldInto_164 : decode cX4_foldInto 164 = .ok (.aload_n 0, 1) := by decide +kernel
theorem dX4_foldInto_165 : decode cX4_foldInto 165 = .ok (.getfield 49, 3) := by decide +kernel
theorem dX4_foldInto_168 : decode cX4_foldInto 168 = .ok (.i2l, 1) := by decide +kernel
theorem dX4_foldInto_169 : decode cX4_foldInto 169 = .ok (.ladd, 1) := by decide +kernel
theorem dX4_foldInto_170 : decode cX4_foldInto 170 = .ok (.lstore_n 3, 1) := by decide +kernel
