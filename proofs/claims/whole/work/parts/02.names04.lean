theorem dX4_foldInto_171 : decode cX4_foldInto 171 = .ok (.ldc2_w 140, 3) := by decide +kernel
theorem dX4_foldInto_174 : decode cX4_foldInto 174 = .ok (.lload_n 3, 1) := by decide +kernel
theorem dX4_foldInto_175 : decode cX4_foldInto 175 = .ok (.lmul, 1) := by decide +kernel
theorem dX4_foldInto_176 : decode cX4_foldInto 176 = .ok (.aload_n 0, 1) := by decide +kernel
theorem dX4_foldInto_177 : decode cX4_foldInto 177 = .ok (.getfield 52, 3) := by decide +kernel
theorem dX4_foldInto_180 : decode cX4_foldInto 180 = .ok (.i2l, 1) := by decide +kernel
theorem dX4_foldInto_181 : decode cX4_foldInto 181 = .ok (.ladd, 1) := by decide +kernel
theorem dX4_foldInto_182 : decode cX4_foldInto 182 = .ok (.lstore_n 3, 1) := by decide +kernel
theorem dX4_foldInto_183 : decode cX4_foldInto 183 = .ok (.ldc2_w 140, 3) := by decide +kernel
theorem dX4_foldInto_186 : decode cX4_foldInto 186 = .ok (.lload_n 3, 1) := by decide +kernel
theorem dX4_foldInto_187 : decode cX4_foldInto 187 = .ok (.lmul, 1) := by decide +kernel
theorem dX4_foldInto_188 : decode cX4_foldInto 188 = .ok (.aload_n 0, 1) := by decide +kernel
theorem dX4_foldInto_189 : decode cX4_foldInto 189 = .ok (.invokevirtual 95, 3) := by decide +kernel
theorem dX4_foldInto_192 : decode cX4_foldInto 192 = .ok (.i2l, 1) := by decide +kernel
theorem dX4_foldInto_193 : decode cX4_foldInto 193 = .ok (.ladd, 1) := by decide +kernel
theorem dX4_foldInto_194 : decode cX4_foldInto 194 = .ok (.lstore_n 3, 1) := by decide +kernel
theorem dX4_foldInto_195 : decode cX4_foldInto 195 = .ok (.ldc2_w 140, 3) := by decide +kernel
theorem dX4_foldInto_198 : decode cX4_foldInto 198 = .ok (.lload_n 3, 1) := by decide +kernel
theorem dX4_foldInto_199 : decode cX4_foldInto 199 = .ok (.lmul, 1) := by decide +kernel
theorem dX4_foldInto_200 : decode cX4_foldInto 200 = .ok (.aload_n 0, 1) := by decide +kernel
theorem dX4_foldInto_201 : decode cX4_foldInto 201 = .ok (.getfield 55, 3) := by decide +kernel
theorem dX4_foldInto_204 : decode cX4_foldInto 204 = .ok (.i2l, 1) := by decide +kernel
theorem dX4_foldInto_205 : decode cX4_foldInto 205 = .ok (.ladd, 1) := by decide +kernel
theorem dX4_foldInto_206 : decode cX4_foldInto 206 = .ok (.lstore_n 3, 1) := by decide +kernel
theorem dX4_foldInto_207 : decode cX4_foldInto 207 = .ok (.iconst 0, 1) := by decide +kernel
theorem dX4_foldInto_208 : decode cX4_foldInto 208 = .ok (.istore 5, 2) := by decide +kernel
theorem dX4_foldInto_210 : decode cX4_foldInto 210 = .ok (.iload 5, 2) := by decide +kernel
theorem dX4_foldInto_212 : decode cX4_foldInto 212 = .ok (.aload_n 0, 1) := by decide +kernel
theorem dX4_foldInto_213 : decode cX4_foldInto 213 = .ok (.getfield 55, 3) := by decide +kernel
theorem dX4_foldInto_216 : decode cX4_foldInto 216 = .ok (.if_icmp .ge 24, 3) := by decide +kernel
theorem dX4_foldInto_219 : decode cX4_foldInto 219 = .ok (.ldc2_w 140, 3) := by decide +kernel
theorem dX4_foldInto_222 : decode cX4_foldInto 222 = .ok (.lload_n 3, 1) := by decide +kernel
theorem dX4_foldInto_223 : decode cX4_foldInto 223 = .ok (.lmul, 1) := by decide +kernel
theorem dX4_foldInto_224 : decode cX4_foldInto 224 = .ok (.aload_n 0, 1) := by decide +kernel
theorem dX4_foldInto_225 : decode cX4_foldInto 225 = .ok (.getfield 30, 3) := by decide +kernel
theorem dX4_foldInto_228 : decode cX4_foldInto 228 = .ok (.iload 5, 2) := by decide +kernel
theorem dX4_foldInto_230 : decode cX4_foldInto 230 = .ok (.iaload, 1) := by decide +kernel
theorem dX4_foldInto_231 : decode cX4_foldInto 231 = .ok (.i2l, 1) := by decide +kernel
theorem dX4_foldInto_232 : decode cX4_foldInto 232 = .ok (.ladd, 1) := by decide +kernel
theorem dX4_foldInto_233 : decode cX4_foldInto 233 = .ok (.lstore_n 3, 1) := by decide +kernel
theorem dX4_foldInto_234 : decode cX4_foldInto 234 = .ok (.iinc 5 1, 3) := by decide +kernel
theorem dX4_foldInto_237 : decode cX4_foldInto 237 = .ok (.goto (-27), 3) := by decide +kernel
theorem dX4_foldInto_240 : decode cX4_foldInto 240 = .ok (.lload_n 3, 1) := by decide +kernel
theorem dX4_foldInto_241 : decode cX4_foldInto 241 = .ok (.lreturn, 1) := by decide +kernel
set_option maxRecDepth 20000 in
theorem ggX5_init_X4_init : GoodIn wsX5_init wsX4_init := goodIn_r _ [24, 25, 2, 3, 26, 27, 28, 29, 30, 31, 32, 33, 34, 35, 36, 37, 6, 38, 39, 40, 41, 42, 43, 44, 65, 66, 67, 68, 69, 70, 71, 72, 73, 74, 75, 76, 77, 78] (by decide +kernel) (by decide +kernel)
set_option maxRecDepth 20000 in
theorem gX5_init_X4_init : GoodIn wsX5_init (wsX4_init) := ggX5_init_X4_init
set_option maxRecDepth 20000 in
theorem ggX5_init_X3_init : GoodIn wsX5_init wsX3_init := goodIn_r _ [46, 47, 2, 3, 48, 49, 26, 50, 51, 52, 53, 88, 89, 90, 91, 92, 93, 94] (by decide +kernel) (by decide +kernel)
set_option maxRecDepth 20000 in
theorem gX5_init_X3_init_n25 : GoodIn wsX5_init (wsX3_init) := ggX5_init_X3_init
set_option maxRecDepth 20000 in
theorem ggX5_init_X1_init : GoodIn wsX5_init wsX1_init := goodIn_r _ [55, 56, 2, 3, 57, 58, 26, 59, 95, 96, 97, 98, 99, 100, 101] (by decide +kernel) (by decide +kernel)
set_option maxRecDepth 20000 in
theorem gX5_init_X1_init_n32 : GoodIn wsX5_init (wsX1_init) := ggX5_init_X1_init
set_option maxRecDepth 20000 in
theorem ggX5_init_X2_init : GoodIn wsX5_init wsX2_init := goodIn_r _ [61, 62, 2, 3, 63, 64, 102, 103] (by decide +kernel) (by decide +kernel)
set_option maxRecDepth 20000 in
theorem gX5_init_X2_init_n39 : GoodIn wsX5_init (wsX2_init) := ggX5_init_X2_init
theorem dX5_init_0 : decode cX5_init 0 = .ok (.aload_n 0, 1) := by decide +kernel
theorem dX5_init_1 : decode cX5_init 1 = .ok (.invokespecial 3, 3) := by decide +kernel
theorem dX5_init_4 : decode cX5_init 4 = .ok (.aload_n 0, 1) := by decide +kernel
theorem dX5_init_5 : decode cX5_init 5 = .ok (.new 9, 3) := by decide +kernel
theorem dX5_init_8 : decode cX5_init 8 = .ok (.dup, 1) := by decide +kernel
theorem dX5_init_9 : decode cX5_init 9 = .ok (.invokespecial 11, 3) := by decide +kernel
theorem dX5_init_12 : decode cX5_init 12 = .ok (.putfield 12, 3) := by decide +kernel
theorem dX5_init_15 : decode cX5_init 15 = .ok (.aload_n 0, 1) := by decide +kernel
theorem dX5_init_16 : decode cX5_init 16 = .ok (.new 9, 3) := by decide +kernel
theorem dX5_init_19 : decode cX5_init 19 = .ok (.dup, 1) := by decide +kernel
theorem dX5_init_20 : decode cX5_init 20 = .ok (.invokespecial 11, 3) := by decide +kernel
theorem dX5_init_23 : decode cX5_init 23 = .ok (.putfield 16, 3) := by decide +kernel
theorem dX5_init_26 : decode cX5_init 26 = .ok (.aload_n 0, 1) := by decide +kernel
theorem dX5_init_27 : decode cX5_init 27 = .ok (.iconst 2, 1) := by decide +kernel
theorem dX5_init_28 : decode cX5_init 28 = .ok (.anewarray 9, 3) := by decide +kernel
theorem dX5_init_31 : decode cX5_init 31 = .ok (.putfield 19, 3) := by decide +kernel
theorem dX5_init_34 : decode cX5_init 34 = .ok (.aload_n 0, 1) := by decide +kernel
theorem dX5_init_35 : decode cX5_init 35 = .ok (.new 23, 3) := by decide +kernel
theorem dX5_init_38 : decode cX5_init 38 = .ok (.dup, 1) := by decide +kernel
theorem dX5_init_39 : decode cX5_init 39 = .ok (.invokespecial 25, 3) := by decide +kernel
theorem dX5_init_42 : decode cX5_init 42 = .ok (.putfield 26, 3) := by decide +kernel
theorem dX5_init_45 : decode cX5_init 45 = .ok (.aload_n 0, 1) := by decide +kernel
theorem dX5_init_46 : decode cX5_init 46 = .ok (.new 30, 3) := by decide +kernel
theorem dX5_init_49 : decode cX5_init 49 = .ok (.dup, 1) := by decide +kernel
theorem dX5_init_50 : decode cX5_init 50 = .ok (.invokespecial 32, 3) := by decide +kernel
theorem dX5_init_53 : decode cX5_init 53 = .ok (.putfield 33, 3) := by decide +kernel
theorem dX5_init_56 : decode cX5_init 56 = .ok (.aload_n 0, 1) := by decide +kernel
theorem dX5_init_57 : decode cX5_init 57 = .ok (.new 37, 3) := by decide +kernel
theorem dX5_init_60 : decode cX5_init 60 = .ok (.dup, 1) := by decide +kernel
theorem dX5_init_61 : decode cX5_init 61 = .ok (.invokespecial 39, 3) := by decide +kernel
theorem dX5_init_64 : decode cX5_init 64 = .ok (.putfield 40, 3) := by decide +kernel
theorem dX5_init_67 : decode cX5_init 67 = .ok (.return_, 1) := by decide +kernel
set_option maxRecDepth 20000 in
theorem ggX5_bolt_X4_addBolt : GoodIn wsX5_bolt wsX4_addBolt := goodIn_r _ [6, 7, 8, 9, 10, 11, 12, 13, 31, 32, 33, 34, 35, 36, 37, 38, 39, 40, 41, 42, 43, 44] (by decide +kernel) (by decide +kernel)
set_option maxRecDepth 20000 in
theorem gX5_bolt_X4_addBolt : GoodIn wsX5_bolt (wsV RX5 44 RX4 yX4_addBolt wsX4_addBolt) := goodIn_app (goodIn_of _ (by decide +kernel)) ggX5_bolt_X4_addBolt
set_option maxRecDepth 20000 in
theorem ggX5_bolt_X5_noted : GoodIn wsX5_bolt wsX5_noted := goodIn_r _ [18, 19, 20, 21, 22, 23, 24, 25, 26, 27, 28, 29, 30] (by decide +kernel) (by decide +kernel)
set_option maxRecDepth 20000 in
theorem gX5_bolt_X5_noted : GoodIn wsX5_bolt (wsV RX5 48 RX5 yX5_noted wsX5_noted) := goodIn_app (goodIn_of _ (by decide +kernel)) ggX5_bolt_X5_noted
theorem dX5_bolt_0 : decode cX5_bolt 0 = .ok (.aload_n 0, 1) := by decide +kernel
theorem dX5_bolt_1 : decode cX5_bolt 1 = .ok (.aload_n 0, 1) := by decide +kernel
theorem dX5_bolt_2 : decode cX5_bolt 2 = .ok (.getfield 12, 3) := by decide +kernel
theorem dX5_bolt_5 : decode cX5_bolt 5 = .ok (.iload_n 1, 1) := by decide +kernel
theorem dX5_bolt_6 : decode cX5_bolt 6 = .ok (.iload_n 2, 1) := by decide +kernel
theorem dX5_bolt_7 : decode cX5_bolt 7 = .ok (.iload_n 3, 1) := by decide +kernel
theorem dX5_bolt_8 : decode cX5_bolt 8 = .ok (.invokevirtual 44, 3) := by decide +kernel
theorem dX5_bolt_11 : decode cX5_bolt 11 = .ok (.invokevirtual 48, 3) := by decide +kernel
theorem dX5_bolt_14 : decode cX5_bolt 14 = .ok (.ireturn, 1) := by decide +kernel
set_option maxRecDepth 20000 in
theorem ggX5_moth_X4_addMoth : GoodIn wsX5_moth wsX4_addMoth := goodIn_r _ [6, 7, 8, 9, 27, 28, 29, 30, 31, 32, 33, 34, 35, 36, 37, 38, 39, 40] (by decide +kernel) (by decide +kernel)
set_option maxRecDepth 20000 in
theorem gX5_moth_X4_addMoth : GoodIn wsX5_moth (wsV RX5 52 RX4 yX4_addMoth wsX4_addMoth) := goodIn_app (goodIn_of _ (by decide +kernel)) ggX5_moth_X4_addMoth
set_option maxRecDepth 20000 in
theorem ggX5_moth_X5_noted : GoodIn wsX5_moth wsX5_noted := goodIn_r _ [14, 15, 16, 17, 18, 19, 20, 21, 22, 23, 24, 25, 26] (by decide +kernel) (by decide +kernel)
set_option maxRecDepth 20000 in
theorem gX5_moth_X5_noted : GoodIn wsX5_moth (wsV RX5 48 RX5 yX5_noted wsX5_noted) := goodIn_app (goodIn_of _ (by decide +kernel)) ggX5_moth_X5_noted
theorem dX5_moth_0 : decode cX5_moth 0 = .ok (.aload_n 0, 1) := by decide +kernel
theorem dX5_moth_1 : decode cX5_moth 1 = .ok (.aload_n 0, 1) := by decide +kernel
theorem dX5_moth_2 : decode cX5_moth 2 = .ok (.getfield 12, 3) := by decide +kernel
theorem dX5_moth_5 : decode cX5_moth 5 = .ok (.iload_n 1, 1) := by decide +kernel
theorem dX5_moth_6 : decode cX5_moth 6 = .ok (.invokevirtual 52, 3) := by decide +kernel
theorem dX5_moth_9 : decode cX5_moth 9 = .ok (.invokevirtual 48, 3) := by decide +kernel
theorem dX5_moth_12 : decode cX5_moth 12 = .ok (.ireturn, 1) := by decide +kernel
set_option maxRecDepth 20000 in
theorem ggX5_taste_X4_setTaste : GoodIn wsX5_taste wsX4_setTaste := goodIn_r _ [6, 7, 25, 26, 27, 28, 29, 30, 31, 32, 33, 34, 35, 36, 37, 38] (by decide +kernel) (by decide +kernel)
set_option maxRecDepth 20000 in
theorem gX5_taste_X4_setTaste : GoodIn wsX5_taste (wsV RX5 55 RX4 yX4_setTaste wsX4_setTaste) := goodIn_app (goodIn_of _ (by decide +kernel)) ggX5_taste_X4_setTaste
set_option maxRecDepth 20000 in
theorem ggX5_taste_X5_noted : GoodIn wsX5_taste wsX5_noted := goodIn_r _ [12, 13, 14, 15, 16, 17, 18, 19, 20, 21, 22, 23, 24] (by decide +kernel) (by decide +kernel)
set_option maxRecDepth 20000 in
theorem gX5_taste_X5_noted : GoodIn wsX5_taste (wsV RX5 48 RX5 yX5_noted wsX5_noted) := goodIn_app (goodIn_of _ (by decide +kernel)) ggX5_taste_X5_noted
theorem dX5_taste_0 : decode cX5_taste 0 = .ok (.aload_n 0, 1) := by decide +kernel
theorem dX5_taste_1 : decode cX5_taste 1 = .ok (.aload_n 0, 1) := by decide +kernel
theorem dX5_taste_2 : decode cX5_taste 2 = .ok (.getfield 12, 3) := by decide +kernel
theorem dX5_taste_5 : decode cX5_taste 5 = .ok (.iload_n 1, 1) := by decide +kernel
theorem dX5_taste_6 : decode cX5_taste 6 = .ok (.iload_n 2, 1) := by decide +kernel
theorem dX5_taste_7 : decode cX5_taste 7 = .ok (.invokevirtual 55, 3) := by decide +kernel
theorem dX5_taste_10 : decode cX5_taste 10 = .ok (.invokevirtual 48, 3) := by decide +kernel
theorem dX5_taste_13 : decode cX5_taste 13 = .ok (.ireturn, 1) := by decide +kernel
set_option maxRecDepth 20000 in
theorem ggX5_put_X4_setTerm : GoodIn wsX5_put wsX4_setTerm := goodIn_r _ [6, 7, 8, 9, 5, 10, 11, 12, 13, 14, 15, 16, 17, 18, 19, 20, 21, 22, 40, 41, 42, 43, 44, 45, 46, 47, 48, 49, 50, 51, 52, 53] (by decide +kernel) (by decide +kernel)
set_option maxRecDepth 20000 in
theorem gX5_put_X4_setTerm : GoodIn wsX5_put (wsV RX5 59 RX4 yX4_setTerm wsX4_setTerm) := goodIn_app (goodIn_of _ (by decide +kernel)) ggX5_put_X4_setTerm
set_option maxRecDepth 20000 in
theorem ggX5_put_X5_noted : GoodIn wsX5_put wsX5_noted := goodIn_r _ [27, 28, 29, 30, 31, 32, 33, 34, 35, 36, 37, 38, 39] (by decide +kernel) (by decide +kernel)
set_option maxRecDepth 20000 in
theorem gX5_put_X5_noted : GoodIn wsX5_put (wsV RX5 48 RX5 yX5_noted wsX5_noted) := goodIn_app (goodIn_of _ (by decide +kernel)) ggX5_put_X5_noted
theorem dX5_put_0 : decode cX5_put 0 = .ok (.aload_n 0, 1) := by decide +kernel
theorem dX5_put_1 : decode cX5_put 1 = .ok (.aload_n 0, 1) := by decide +kernel
theorem dX5_put_2 : decode cX5_put 2 = .ok (.getfield 12, 3) := by decide +kernel
theorem dX5_put_5 : decode cX5_put 5 = .ok (.iload_n 1, 1) := by decide +kernel
theorem dX5_put_6 : decode cX5_put 6 = .ok (.iload_n 2, 1) := by decide +kernel
theorem dX5_put_7 : decode cX5_put 7 = .ok (.invokevirtual 59, 3) := by decide +kernel
theorem dX5_put_10 : decode cX5_put 10 = .ok (.invokevirtual 48, 3) := by decide +kernel
theorem dX5_put_13 : decode cX5_put 13 = .ok (.ireturn, 1) := by decide +kernel
set_option maxRecDepth 20000 in
theorem ggX5_appetite_X4_hasMoth : GoodIn wsX5_appetite wsX4_hasMoth := goodIn_r _ [6, 7, 48, 49, 50, 51, 52, 53, 54, 55, 56, 57, 58, 59, 60, 61] (by decide +kernel) (by decide +kernel)
set_option maxRecDepth 20000 in
theorem gX5_appetite_X4_hasMoth : GoodIn wsX5_appetite (wsV RX5 62 RX4 yX4_hasMoth wsX4_hasMoth) := goodIn_app (goodIn_of _ (by decide +kernel)) ggX5_appetite_X4_hasMoth
set_option maxRecDepth 20000 in
theorem ggX5_appetite_X4_hasBolt : GoodIn wsX5_appetite wsX4_hasBolt := goodIn_r _ [11, 12, 48, 49, 50, 51, 52, 53, 54, 55, 56, 57, 58, 59, 60, 61] (by decide +kernel) (by decide +kernel)
set_option maxRecDepth 20000 in
theorem gX5_appetite_X4_hasBolt : GoodIn wsX5_appetite (wsV RX5 66 RX4 yX4_hasBolt wsX4_hasBolt) := goodIn_app (goodIn_of _ (by decide +kernel)) ggX5_appetite_X4_hasBolt
set_option maxRecDepth 20000 in
theorem ggX5_appetite_X5_noted : GoodIn wsX5_appetite wsX5_noted := goodIn_r _ [17, 18, 19, 20, 39, 40, 41, 42, 43, 44, 45, 46, 47] (by decide +kernel) (by decide +kernel)
set_option maxRecDepth 20000 in
theorem gX5_appetite_X5_noted : GoodIn wsX5_appetite (wsV RX5 48 RX5 yX5_noted wsX5_noted) := goodIn_app (goodIn_of _ (by decide +kernel)) ggX5_appetite_X5_noted
set_option maxRecDepth 20000 in
theorem ggX5_appetite_X4_hunger : GoodIn wsX5_appetite wsX4_hunger := goodIn_r _ [24, 25, 26, 9, 10, 5, 11, 12, 27, 28, 29, 30, 31, 32, 33, 34, 3, 4, 6, 7, 35, 36, 37, 38, 48, 49, 50, 51, 52, 53, 54, 55, 56, 57, 58, 59, 60, 61] (by decide +kernel) (by decide +kernel)
set_option maxRecDepth 20000 in
theorem gX5_appetite_X4_hunger : GoodIn wsX5_appetite (wsV RX5 69 RX4 yX4_hunger wsX4_hunger) := goodIn_app (goodIn_of _ (by decide +kernel)) ggX5_appetite_X4_hunger
theorem dX5_appetite_0 : decode cX5_appetite 0 = .ok (.aload_n 0, 1) := by decide +kernel
theorem dX5_appetite_1 : decode cX5_appetite 1 = .ok (.getfield 12, 3) := by decide +kernel
theorem dX5_appetite_4 : decode cX5_appetite 4 = .ok (.iload_n 1, 1) := by decide +kernel
theorem dX5_appetite_5 : decode cX5_appetite 5 = .ok (.invokevirtual 62, 3) := by decide +kernel
theorem dX5_appetite_8 : decode cX5_appetite 8 = .ok (.ifCond .eq 14, 3) := by decide +kernel
theorem dX5_appetite_11 : decode cX5_appetite 11 = .ok (.aload_n 0, 1) := by decide +kernel
theorem dX5_appetite_12 : decode cX5_appetite 12 = .ok (.getfield 12, 3) := by decide +kernel
theorem dX5_appetite_15 : decode cX5_appetite 15 = .ok (.iload_n 2, 1) := by decide +kernel
theorem dX5_appetite_16 : decode cX5_appetite 16 = .ok (.invokevirtual 66, 3) := by decide +kernel
theorem dX5_appetite_19 : decode cX5_appetite 19 = .ok (.ifCond .ne 10, 3) := by decide +kernel
theorem dX5_appetite_22 : decode cX5_appetite 22 = .ok (.aload_n 0, 1) := by decide +kernel
theorem dX5_appetite_23 : decode cX5_appetite 23 = .ok (.bipush (-2), 2) := by decide +kernel
theorem dX5_appetite_25 : decode cX5_appetite 25 = .ok (.invokevirtual 48, 3) := by decide +kernel
theorem dX5_appetite_28 : decode cX5_appetite 28 = .ok (.ireturn, 1) := by decide +kernel
theorem dX5_appetite_29 : decode cX5_appetite 29 = .ok (.aload_n 0, 1) := by decide +kernel
theorem dX5_appetite_30 : decode cX5_appetite 30 = .ok (.getfield 12, 3) := by decide +kernel
theorem dX5_appetite_33 : decode cX5_appetite 33 = .ok (.iload_n 1, 1) := by decide +kernel
theorem dX5_appetite_34 : decode cX5_appetite 34 = .ok (.iload_n 2, 1) := by decide +kernel
theorem dX5_appetite_35 : decode cX5_appetite 35 = .ok (.invokevirtual 69, 3) := by decide +kernel
theorem dX5_appetite_38 : decode cX5_appetite 38 = .ok (.ireturn, 1) := by decide +kernel
set_option maxRecDepth 20000 in
theorem ggX5_type_X1_append : GoodIn wsX5_type wsX1_append := goodIn_r _ [6, 7, 8, 26, 27, 28, 29, 30, 31, 32] (by decide +kernel) (by decide +kernel)
set_option maxRecDepth 20000 in
theorem gX5_type_X1_append : GoodIn wsX5_type (wsV RX5 72 RX1 yX1_append wsX1_append) := goodIn_app (goodIn_of _ (by decide +kernel)) ggX5_type_X1_append
set_option maxRecDepth 20000 in
theorem ggX5_type_X5_noted : GoodIn wsX5_type wsX5_noted := goodIn_r _ [13, 14, 15, 16, 17, 18, 19, 20, 21, 22, 23, 24, 25] (by decide +kernel) (by decide +kernel)
set_option maxRecDepth 20000 in
theorem gX5_type_X5_noted : GoodIn wsX5_type (wsV RX5 48 RX5 yX5_noted wsX5_noted) := goodIn_app (goodIn_of _ (by decide +kernel)) ggX5_type_X5_noted
theorem dX5_type_0 : decode cX5_type 0 = .ok (.aload_n 0, 1) := by decide +kernel
theorem dX5_type_1 : decode cX5_type 1 = .ok (.aload_n 0, 1) := by decide +kernel
theorem dX5_type_2 : decode cX5_type 2 = .ok (.getfield 33, 3) := by decide +kernel
theorem dX5_type_5 : decode cX5_type 5 = .ok (.lload_n 1, 1) := by decide +kernel
theorem dX5_type_6 : decode cX5_type 6 = .ok (.iload_n 3, 1) := by decide +kernel
theorem dX5_type_7 : decode cX5_type 7 = .ok (.invokevirtual 72, 3) := by decide +kernel
theorem dX5_type_10 : decode cX5_type 10 = .ok (.invokevirtual 48, 3) := by decide +kernel
theorem dX5_type_13 : decode cX5_type 13 = .ok (.ireturn, 1) := by decide +kernel
set_option maxRecDepth 20000 in
theorem ggX5_clear_X1_empty : GoodIn wsX5_clear wsX1_empty := goodIn_r _ [6, 7, 17, 18, 19, 20, 21, 22, 23] (by decide +kernel) (by decide +kernel)
set_option maxRecDepth 20000 in
theorem gX5_clear_X1_empty : GoodIn wsX5_clear (wsV RX5 76 RX1 yX1_empty wsX1_empty) := goodIn_app (goodIn_of _ (by decide +kernel)) ggX5_clear_X1_empty
theorem dX5_clear_0 : decode cX5_clear 0 = .ok (.aload_n 0, 1) := by decide +kernel
theorem dX5_clear_1 : decode cX5_clear 1 = .ok (.getfield 33, 3) := by decide +kernel
theorem dX5_clear_4 : decode cX5_clear 4 = .ok (.invokevirtual 76, 3) := by decide +kernel
theorem dX5_clear_7 : decode cX5_clear 7 = .ok (.ireturn, 1) := by decide +kernel
set_option maxRecDepth 20000 in
theorem ggX5_read_X1_tellTo : GoodIn wsX5_read wsX1_tellTo := goodIn_r _ [8, 9, 10, 11, 12, 13, 14, 15, 16, 17, 18, 19, 20, 21, 22, 23, 24, 25, 26, 27, 28, 7, 29, 30, 31, 32, 33, 34, 35, 36, 37, 38, 39, 40, 41, 42, 43, 44, 45, 46, 47, 48, 49, 50, 51, 52, 53, 54, 55, 56, 57, 58, 59, 60, 61, 62, 63, 64, 65, 66, 67, 68, 69, 70, 71, 72, 73, 74, 75, 76, 77, 78, 79, 80, 81, 82, 83, 84, 85, 86, 87, 88, 89, 90, 91, 92, 93, 94, 95, 96, 97, 98, 99, 100, 101, 102, 103, 104, 105, 106, 107, 108, 109, 110, 111, 112, 113, 114, 115, 116, 117, 118, 119, 120, 121, 122, 123, 124, 125, 126, 127, 128, 129, 130, 131, 132, 133, 134, 135, 136, 137, 138, 139, 140, 141, 142, 143, 144, 145, 146, 147, 148, 149, 150, 151, 152, 153, 172, 173, 174, 175, 176, 177, 178, 179, 180, 181, 182, 183, 184, 185, 186, 187, 188, 189, 190, 191, 192] (by decide +kernel) (by decide +kernel)
set_option maxRecDepth 20000 in
theorem gX5_read_X1_tellTo : GoodIn wsX5_read (wsV RX5 80 RX1 yX1_tellTo wsX1_tellTo) := goodIn_app (goodIn_of _ (by decide +kernel)) ggX5_read_X1_tellTo
set_option maxRecDepth 20000 in
theorem ggX5_read_X4_copyFrom : GoodIn wsX5_read wsX4_copyFrom := goodIn_r _ [157, 117, 118, 119, 120, 19, 125, 20, 21, 22, 23, 24, 158, 159, 25, 160, 161, 17, 162, 179, 180, 181, 182, 183, 184, 185, 186, 187, 188, 189, 190, 191, 192] (by decide +kernel) (by decide +kernel)
set_option maxRecDepth 20000 in
theorem gX5_read_X4_copyFrom : GoodIn wsX5_read (wsV RX5 84 RX4 yX4_copyFrom wsX4_copyFrom) := goodIn_app (goodIn_of _ (by decide +kernel)) ggX5_read_X4_copyFrom
theorem dX5_read_0 : decode cX5_read 0 = .ok (.aload_n 0, 1) := by decide +kernel
theorem dX5_read_1 : decode cX5_read 1 = .ok (.getfield 33, 3) := by decide +kernel
theorem dX5_read_4 : decode cX5_read 4 = .ok (.aload_n 0, 1) := by decide +kernel
theorem dX5_read_5 : decode cX5_read 5 = .ok (.getfield 16, 3) := by decide +kernel
theorem dX5_read_8 : decode cX5_read 8 = .ok (.invokevirtual 80, 3) := by decide +kernel
theorem dX5_read_11 : decode cX5_read 11 = .ok (.istore_n 1, 1) := by decide +kernel
theorem dX5_read_12 : decode cX5_read 12 = .ok (.iload_n 1, 1) := by decide +kernel
theorem dX5_read_13 : decode cX5_read 13 = .ok (.ifCond .lt 14, 3) := by decide +kernel
theorem dX5_read_16 : decode cX5_read 16 = .ok (.aload_n 0, 1) := by decide +kernel
theorem dX5_read_17 : decode cX5_read 17 = .ok (.getfield 12, 3) := by decide +kernel
theorem dX5_read_20 : decode cX5_read 20 = .ok (.aload_n 0, 1) := by decide +kernel
theorem dX5_read_21 : decode cX5_read 21 = .ok (.getfield 16, 3) := by decide +kernel
theorem dX5_read_24 : decode cX5_read 24 = .ok (.invokevirtual 84, 3) := by decide +kernel
theorem dX5_read_27 : decode cX5_read 27 = .ok (.iload_n 1, 1) := by decide +kernel
theorem dX5_read_28 : decode cX5_read 28 = .ok (.ireturn, 1) := by decide +kernel
set_option maxRecDepth 20000 in
theorem ggX5_pleased_X4_hasBolt : GoodIn wsX5_pleased wsX4_hasBolt := goodIn_r _ [6, 7, 52, 53, 54, 55, 56, 57, 58, 59, 60, 61, 62, 63, 64, 65] (by decide +kernel) (by decide +kernel)
set_option maxRecDepth 20000 in
theorem gX5_pleased_X4_hasBolt : GoodIn wsX5_pleased (wsV RX5 66 RX4 yX4_hasBolt wsX4_hasBolt) := goodIn_app (goodIn_of _ (by decide +kernel)) ggX5_pleased_X4_hasBolt
set_option maxRecDepth 20000 in
theorem ggX5_pleased_X5_noted : GoodIn wsX5_pleased wsX5_noted := goodIn_r _ [12, 13, 14, 15, 43, 44, 45, 46, 47, 48, 49, 50, 51] (by decide +kernel) (by decide +kernel)
set_option maxRecDepth 20000 in
theorem gX5_pleased_X5_noted : GoodIn wsX5_pleased (wsV RX5 48 RX5 yX5_noted wsX5_noted) := goodIn_app (goodIn_of _ (by decide +kernel)) ggX5_pleased_X5_noted
set_option maxRecDepth 20000 in
theorem ggX5_pleased_X4_pleases : GoodIn wsX5_pleased wsX4_pleases := goodIn_r _ [19, 20, 21, 22, 23, 24, 5, 25, 26, 27, 3, 4, 6, 7, 28, 29, 30, 31, 32, 33, 34, 35, 36, 37, 38, 39, 40, 41, 42, 52, 53, 54, 55, 56, 57, 58, 59, 60, 61, 62, 63, 64, 65] (by decide +kernel) (by decide +kernel)
set_option maxRecDepth 20000 in
theorem gX5_pleased_X4_pleases : GoodIn wsX5_pleased (wsV RX5 88 RX4 yX4_pleases wsX4_pleases) := goodIn_app (goodIn_of _ (by decide +kernel)) ggX5_pleased_X4_pleases
theorem dX5_pleased_0 : decode cX5_pleased 0 = .ok (.aload_n 0, 1) := by decide +kernel
theorem dX5_pleased_1 : decode cX5_pleased 1 = .ok (.getfield 12, 3) := by decide +kernel
theorem dX5_pleased_4 : decode cX5_pleased 4 = .ok (.iload_n 1, 1) := by decide +kernel
theorem dX5_pleased_5 : decode cX5_pleased 5 = .ok (.invokevirtual 66, 3) := by decide +kernel
theorem dX5_pleased_8 : decode cX5_pleased 8 = .ok (.ifCond .ne 10, 3) := by decide +kernel
theorem dX5_pleased_11 : decode cX5_pleased 11 = .ok (.aload_n 0, 1) := by decide +kernel
theorem dX5_pleased_12 : decode cX5_pleased 12 = .ok (.bipush (-2), 2) := by decide +kernel
theorem dX5_pleased_14 : decode cX5_pleased 14 = .ok (.invokevirtual 48, 3) := by decide +kernel
theorem dX5_pleased_17 : decode cX5_pleased 17 = .ok (.ireturn, 1) := by decide +kernel
theorem dX5_pleased_18 : decode cX5_pleased 18 = .ok (.aload_n 0, 1) := by decide +kernel
theorem dX5_pleased_19 : decode cX5_pleased 19 = .ok (.getfield 12, 3) := by decide +kernel
theorem dX5_pleased_22 : decode cX5_pleased 22 = .ok (.iload_n 1, 1) := by decide +kernel
theorem dX5_pleased_23 : decode cX5_pleased 23 = .ok (.invokevirtual 88, 3) := by decide +kernel
theorem dX5_pleased_26 : decode cX5_pleased 26 = .ok (.ifCond .eq 7, 3) := by decide +kernel
theorem dX5_pleased_29 : decode cX5_pleased 29 = .ok (.iconst 1, 1) := by decide +kernel
theorem dX5_pleased_30 : decode cX5_pleased 30 = .ok (.goto 4, 3) := by decide +kernel
theorem dX5_pleased_33 : decode cX5_pleased 33 = .ok (.iconst 0, 1) := by decide +kernel
theorem dX5_pleased_34 : decode cX5_pleased 34 = .ok (.ireturn, 1) := by decide +kernel
set_option maxRecDepth 20000 in
theorem ggX5_cheapest_X4_groups : GoodIn wsX5_cheapest wsX4_groups := goodIn_r _ [7, 8, 9, 10, 11, 6, 12, 13, 106, 107, 108, 109, 110, 111, 112, 113, 114, 115, 116, 117, 118, 119] (by decide +kernel) (by decide +kernel)
set_option maxRecDepth 20000 in
theorem gX5_cheapest_X4_groups : GoodIn wsX5_cheapest (wsV RX5 91 RX4 yX4_groups wsX4_groups) := goodIn_app (goodIn_of _ (by decide +kernel)) ggX5_cheapest_X4_groups
set_option maxRecDepth 20000 in
theorem ggX5_cheapest_X5_noted : GoodIn wsX5_cheapest wsX5_noted := goodIn_r _ [18, 19, 20, 21, 97, 98, 99, 100, 101, 102, 103, 104, 105] (by decide +kernel) (by decide +kernel)
set_option maxRecDepth 20000 in
theorem gX5_cheapest_X5_noted : GoodIn wsX5_cheapest (wsV RX5 48 RX5 yX5_noted wsX5_noted) := goodIn_app (goodIn_of _ (by decide +kernel)) ggX5_cheapest_X5_noted
set_option maxRecDepth 20000 in
theorem ggX5_cheapest_X3_lay : GoodIn wsX5_cheapest wsX3_lay := goodIn_r _ [26, 27, 28, 29, 30, 31, 32, 33, 34, 35, 36, 6, 37, 38, 39, 40, 41, 42, 43, 44, 45, 46, 47, 48, 13, 49, 50, 51, 52, 53, 54, 55, 56, 57, 58, 59, 60, 61, 62, 63, 64, 10, 11, 12, 65, 66, 67, 25, 68, 69, 70, 71, 72, 73, 74, 75, 76, 77, 78, 79, 80, 81, 82, 83, 84, 85, 86, 87, 88, 106, 107, 108, 109, 110, 111, 112, 113, 114, 115, 116, 117, 118, 119, 120, 121, 122, 123, 124, 125, 126] (by decide +kernel) (by decide +kernel)
set_option maxRecDepth 20000 in
theorem gX5_cheapest_X3_lay : GoodIn wsX5_cheapest (wsV RX5 98 RX3 yX3_lay wsX3_lay) := goodIn_app (goodIn_of _ (by decide +kernel)) ggX5_cheapest_X3_lay
set_option maxRecDepth 20000 in
theorem ggX5_cheapest_X3_worth : GoodIn wsX5_cheapest wsX3_worth := goodIn_r _ [92, 86, 120, 121, 122, 123, 124, 125, 126] (by decide +kernel) (by decide +kernel)
set_option maxRecDepth 20000 in
theorem gX5_cheapest_X3_worth : GoodIn wsX5_cheapest (wsV RX5 102 RX3 yX3_worth wsX3_worth) := goodIn_app (goodIn_of _ (by decide +kernel)) ggX5_cheapest_X3_worth
set_option maxRecDepth 20000 in
theorem ggX5_cheapest_X3_giftOf : GoodIn wsX5_cheapest wsX3_giftOf := goodIn_r _ [96, 86, 32, 87, 120, 121, 122, 123, 124, 125, 126] (by decide +kernel) (by decide +kernel)
set_option maxRecDepth 20000 in
theorem gX5_cheapest_X3_giftOf : GoodIn wsX5_cheapest (wsV RX5 105 RX3 yX3_giftOf wsX3_giftOf) := goodIn_app (goodIn_of _ (by decide +kernel)) ggX5_cheapest_X3_giftOf
theorem dX5_cheapest_0 : decode cX5_cheapest 0 = .ok (.iload_n 1, 1) := by decide +kernel
theorem dX5_cheapest_1 : decode cX5_cheapest 1 = .ok (.iconst (-1), 1) := by decide +kernel
theorem dX5_cheapest_2 : decode cX5_cheapest 2 = .ok (.if_icmp .lt 14, 3) := by decide +kernel
theorem dX5_cheapest_5 : decode cX5_cheapest 5 = .ok (.iload_n 1, 1) := by decide +kernel
theorem dX5_cheapest_6 : decode cX5_cheapest 6 = .ok (.aload_n 0, 1) := by decide +kernel
theorem dX5_cheapest_7 : decode cX5_cheapest 7 = .ok (.getfield 12, 3) := by decide +kernel
theorem dX5_cheapest_10 : decode cX5_cheapest 10 = .ok (.invokevirtual 91, 3) := by decide +kernel
theorem dX5_cheapest_13 : decode cX5_cheapest 13 = .ok (.if_icmp .lt 10, 3) := by decide +kernel
theorem dX5_cheapest_16 : decode cX5_cheapest 16 = .ok (.aload_n 0, 1) := by decide +kernel
theorem dX5_cheapest_17 : decode cX5_cheapest 17 = .ok (.bipush (-10), 2) := by decide +kernel
theorem dX5_cheapest_19 : decode cX5_cheapest 19 = .ok (.invokevirtual 48, 3) := by decide +kernel
theorem dX5_cheapest_22 : decode cX5_cheapest 22 = .ok (.ireturn, 1) := by decide +kernel
theorem dX5_cheapest_23 : decode cX5_cheapest 23 = .ok (.aload_n 0, 1) := by decide +kernel
theorem dX5_cheapest_24 : decode cX5_cheapest 24 = .ok (.getfield 26, 3) := by decide +kernel
theorem dX5_cheapest_27 : decode cX5_cheapest 27 = .ok (.aload_n 0, 1) := by decide +kernel
theorem dX5_cheapest_28 : decode cX5_cheapest 28 = .ok (.getfield 12, 3) := by decide +kernel
theorem dX5_cheapest_31 : decode cX5_cheapest 31 = .ok (.aload_n 0, 1) := by decide +kernel
theorem dX5_cheapest_32 : decode cX5_cheapest 32 = .ok (.getfield 12, 3) := by decide +kernel
theorem dX5_cheapest_35 : decode cX5_cheapest 35 = .ok (.getfield 94, 3) := by decide +kernel
theorem dX5_cheapest_38 : decode cX5_cheapest 38 = .ok (.invokevirtual 98, 3) := by decide +kernel
theorem dX5_cheapest_41 : decode cX5_cheapest 41 = .ok (.iload_n 1, 1) := by decide +kernel
theorem dX5_cheapest_42 : decode cX5_cheapest 42 = .ok (.iconst (-1), 1) := by decide +kernel
theorem dX5_cheapest_43 : decode cX5_cheapest 43 = .ok (.if_icmp .ne 13, 3) := by decide +kernel
theorem dX5_cheapest_46 : decode cX5_cheapest 46 = .ok (.aload_n 0, 1) := by decide +kernel
theorem dX5_cheapest_47 : decode cX5_cheapest 47 = .ok (.getfield 26, 3) := by decide +kernel
theorem dX5_cheapest_50 : decode cX5_cheapest 50 = .ok (.invokevirtual 102, 3) := by decide +kernel
theorem dX5_cheapest_53 : decode cX5_cheapest 53 = .ok (.goto 11, 3) := by decide +kernel
theorem dX5_cheapest_56 : decode cX5_cheapest 56 = .ok (.aload_n 0, 1) := by decide +kernel
theorem dX5_cheapest_57 : decode cX5_cheapest 57 = .ok (.getfield 26, 3) := by decide +kernel
theorem dX5_cheapest_60 : decode cX5_cheapest 60 = .ok (.iload_n 1, 1) := by decide +kernel
theorem dX5_cheapest_61 : decode cX5_cheapest 61 = .ok (.invokevirtual 105, 3) := by decide +kernel
theorem dX5_cheapest_64 : decode cX5_cheapest 64 = .ok (.ireturn, 1) := by decide +kernel
set_option maxRecDepth 20000 in
theorem ggX5_number_X3_lay : GoodIn wsX5_number wsX3_lay := goodIn_r _ [7, 8, 9, 10, 11, 12, 13, 14, 15, 16, 17, 18, 19, 20, 21, 22, 23, 24, 25, 26, 27, 28, 29, 30, 31, 32, 33, 34, 35, 36, 37, 38, 39, 40, 41, 42, 43, 44, 45, 46, 47, 48, 49, 50, 51, 52, 53, 6, 54, 55, 56, 57, 58, 59, 60, 61, 62, 63, 64, 65, 66, 67, 68, 69, 70, 71, 72, 73, 74, 88, 89, 90, 91, 92, 93, 94, 95, 96, 97, 98, 99, 100, 101, 102, 103, 104, 105, 106, 107, 108] (by decide +kernel) (by decide +kernel)
set_option maxRecDepth 20000 in
theorem gX5_number_X3_lay : GoodIn wsX5_number (wsV RX5 98 RX3 yX3_lay wsX3_lay) := goodIn_app (goodIn_of _ (by decide +kernel)) ggX5_number_X3_lay
set_option maxRecDepth 20000 in
theorem ggX5_number_X3_worth : GoodIn wsX5_number wsX3_worth := goodIn_r _ [78, 72, 102, 103, 104, 105, 106, 107, 108] (by decide +kernel) (by decide +kernel)
set_option maxRecDepth 20000 in
theorem gX5_number_X3_worth : GoodIn wsX5_number (wsV RX5 102 RX3 yX3_worth wsX3_worth) := goodIn_app (goodIn_of _ (by decide +kernel)) ggX5_number_X3_worth
theorem dX5_number_0 : decode cX5_number 0 = .ok (.iconst (-1), 1) := by decide +kernel
theorem dX5_number_1 : decode cX5_number 1 = .ok (.istore_n 1, 1) := by decide +kernel
theorem dX5_number_2 : decode cX5_number 2 = .ok (.iconst (-1), 1) := by decide +kernel
theorem dX5_number_3 : decode cX5_number 3 = .ok (.istore_n 2, 1) := by decide +kernel
theorem dX5_number_4 : decode cX5_number 4 = .ok (.iconst 2, 1) := by decide +kernel
theorem dX5_number_5 : decode cX5_number 5 = .ok (.istore_n 3, 1) := by decide +kernel
theorem dX5_number_6 : decode cX5_number 6 = .ok (.iload_n 3, 1) := by decide +kernel
theorem dX5_number_7 : decode cX5_number 7 = .ok (.bipush 6, 2) := by decide +kernel
theorem dX5_number_9 : decode cX5_number 9 = .ok (.if_icmp .gt 52, 3) := by decide +kernel
theorem dX5_number_12 : decode cX5_number 12 = .ok (.aload_n 0, 1) := by decide +kernel
theorem dX5_number_13 : decode cX5_number 13 = .ok (.getfield 26, 3) := by decide +kernel
theorem dX5_number_16 : decode cX5_number 16 = .ok (.aload_n 0, 1) := by decide +kernel
theorem dX5_number_17 : decode cX5_number 17 = .ok (.getfield 12, 3) := by decide +kernel
theorem dX5_number_20 : decode cX5_number 20 = .ok (.iload_n 3, 1) := by decide +kernel
theorem dX5_number_21 : decode cX5_number 21 = .ok (.invokevirtual 98, 3) := by decide +kernel
theorem dX5_number_24 : decode cX5_number 24 = .ok (.aload_n 0, 1) := by decide +kernel
theorem dX5_number_25 : decode cX5_number 25 = .ok (.getfield 26, 3) := by decide +kernel
theorem dX5_number_28 : decode cX5_number 28 = .ok (.invokevirtual 102, 3) := by decide +kernel
theorem dX5_number_31 : decode cX5_number 31 = .ok (.istore 4, 2) := by decide +kernel
theorem dX5_number_33 : decode cX5_number 33 = .ok (.iload 4, 2) := by decide +kernel
theorem dX5_number_35 : decode cX5_number 35 = .ok (.iconst (-1), 1) := by decide +kernel
theorem dX5_number_36 : decode cX5_number 36 = .ok (.if_icmp .eq 19, 3) := by decide +kernel
theorem dX5_number_39 : decode cX5_number 39 = .ok (.iload_n 1, 1) := by decide +kernel
theorem dX5_number_40 : decode cX5_number 40 = .ok (.iconst (-1), 1) := by decide +kernel
theorem dX5_number_41 : decode cX5_number 41 = .ok (.if_icmp .eq 9, 3) := by decide +kernel
theorem dX5_number_44 : decode cX5_number 44 = .ok (.iload 4, 2) := by decide +kernel
theorem dX5_number_46 : decode cX5_number 46 = .ok (.iload_n 2, 1) := by decide +kernel
theorem dX5_number_47 : decode cX5_number 47 = .ok (.if_icmp .ge 8, 3) := by decide +kernel
theorem dX5_number_50 : decode cX5_number 50 = .ok (.iload_n 3, 1) := by decide +kernel
theorem dX5_number_51 : decode cX5_number 51 = .ok (.istore_n 1, 1) := by decide +kernel
theorem dX5_number_52 : decode cX5_number 52 = .ok (.iload 4, 2) := by decide +kernel
theorem dX5_number_54 : decode cX5_number 54 = .ok (.istore_n 2, 1) := by decide +kernel
theorem dX5_number_55 : decode cX5_number 55 = .ok (.iinc 3 1, 3) := by decide +kernel
theorem dX5_number_58 : decode cX5_number 58 = .ok (.goto (-52), 3) := by decide +kernel
theorem dX5_number_61 : decode cX5_number 61 = .ok (.iload_n 1, 1) := by decide +kernel
theorem dX5_number_62 : decode cX5_number 62 = .ok (.ireturn, 1) := by decide +kernel
set_option maxRecDepth 20000 in
theorem ggX5_stands_X3_lay : GoodIn wsX5_stands wsX3_lay := goodIn_r _ [9, 10, 11, 12, 13, 14, 15, 16, 17, 18, 19, 20, 21, 22, 23, 24, 25, 26, 27, 28, 29, 30, 31, 32, 33, 34, 35, 36, 37, 38, 39, 40, 41, 42, 43, 44, 45, 46, 47, 48, 49, 50, 51, 52, 53, 54, 55, 8, 56, 57, 58, 59, 60, 61, 62, 63, 64, 65, 66, 67, 68, 69, 70, 71, 72, 73, 74, 75, 76, 116, 117, 118, 119, 120, 121, 122, 123, 124, 125, 126, 127, 128, 129, 130, 131, 132, 133, 134, 135, 136] (by decide +kernel) (by decide +kernel)
set_option maxRecDepth 20000 in
theorem gX5_stands_X3_lay : GoodIn wsX5_stands (wsV RX5 98 RX3 yX3_lay wsX3_lay) := goodIn_app (goodIn_of _ (by decide +kernel)) ggX5_stands_X3_lay
set_option maxRecDepth 20000 in
theorem ggX5_stands_X3_worth : GoodIn wsX5_stands wsX3_worth := goodIn_r _ [80, 74, 130, 131, 132, 133, 134, 135, 136] (by decide +kernel) (by decide +kernel)
set_option maxRecDepth 20000 in
theorem gX5_stands_X3_worth : GoodIn wsX5_stands (wsV RX5 102 RX3 yX3_worth wsX3_worth) := goodIn_app (goodIn_of _ (by decide +kernel)) ggX5_stands_X3_worth
set_option maxRecDepth 20000 in
theorem ggX5_stands_X5_noted : GoodIn wsX5_stands wsX5_noted := goodIn_r _ [85, 86, 87, 88, 107, 108, 109, 110, 111, 112, 113, 114, 115] (by decide +kernel) (by decide +kernel)
set_option maxRecDepth 20000 in
theorem gX5_stands_X5_noted : GoodIn wsX5_stands (wsV RX5 48 RX5 yX5_noted wsX5_noted) := goodIn_app (goodIn_of _ (by decide +kernel)) ggX5_stands_X5_noted
set_option maxRecDepth 20000 in
theorem ggX5_stands_X3_groups : GoodIn wsX5_stands wsX3_groups := goodIn_r _ [92, 15, 130, 131, 132, 133, 134, 135, 136] (by decide +kernel) (by decide +kernel)
set_option maxRecDepth 20000 in
theorem gX5_stands_X3_groups : GoodIn wsX5_stands (wsV RX5 108 RX3 yX3_groups wsX3_groups) := goodIn_app (goodIn_of _ (by decide +kernel)) ggX5_stands_X3_groups
set_option maxRecDepth 20000 in
theorem ggX5_stands_X3_moodAhead : GoodIn wsX5_stands wsX3_moodAhead := goodIn_r _ [96, 74, 15, 76, 130, 131, 132, 133, 134, 135, 136] (by decide +kernel) (by decide +kernel)
set_option maxRecDepth 20000 in
theorem gX5_stands_X3_moodAhead : GoodIn wsX5_stands (wsV RX5 109 RX3 yX3_moodAhead wsX3_moodAhead) := goodIn_app (goodIn_of _ (by decide +kernel)) ggX5_stands_X3_moodAhead
set_option maxRecDepth 20000 in
theorem ggX5_stands_X2_become : GoodIn wsX5_stands wsX2_become := goodIn_r _ [101, 102, 103, 104, 105, 100, 106, 137, 138] (by decide +kernel) (by decide +kernel)
set_option maxRecDepth 20000 in
theorem gX5_stands_X2_become : GoodIn wsX5_stands (wsV RX5 114 RX2 yX2_become wsX2_become) := goodIn_app (goodIn_of _ (by decide +kernel)) ggX5_stands_X2_become
theorem dX5_stands_0 : decode cX5_stands 0 = .ok (.aload_n 0, 1) := by decide +kernel
theorem dX5_stands_1 : decode cX5_stands 1 = .ok (.getfield 26, 3) := by decide +kernel
theorem dX5_stands_4 : decode cX5_stands 4 = .ok (.aload_n 0, 1) := by decide +kernel
theorem dX5_stands_5 : decode cX5_stands 5 = .ok (.getfield 12, 3) := by decide +kernel
theorem dX5_stands_8 : decode cX5_stands 8 = .ok (.aload_n 0, 1) := by decide +kernel
theorem dX5_stands_9 : decode cX5_stands 9 = .ok (.getfield 12, 3) := by decide +kernel
theorem dX5_stands_12 : decode cX5_stands 12 = .ok (.getfield 94, 3) := by decide +kernel
theorem dX5_stands_15 : decode cX5_stands 15 = .ok (.invokevirtual 98, 3) := by decide +kernel
theorem dX5_stands_18 : decode cX5_stands 18 = .ok (.aload_n 0, 1) := by decide +kernel
theorem dX5_stands_19 : decode cX5_stands 19 = .ok (.getfield 26, 3) := by decide +kernel
theorem dX5_stands_22 : decode cX5_stands 22 = .ok (.invokevirtual 102, 3) := by decide +kernel
theorem dX5_stands_25 : decode cX5_stands 25 = .ok (.iconst (-1), 1) := by decide +kernel
theorem dX5_stands_26 : decode cX5_stands 26 = .ok (.if_icmp .ne 10, 3) := by decide +kernel
theorem dX5_stands_29 : decode cX5_stands 29 = .ok (.aload_n 0, 1) := by decide +kernel
theorem dX5_stands_30 : decode cX5_stands 30 = .ok (.bipush (-3), 2) := by decide +kernel
theorem dX5_stands_32 : decode cX5_stands 32 = .ok (.invokevirtual 48, 3) := by decide +kernel
theorem dX5_stands_35 : decode cX5_stands 35 = .ok (.ireturn, 1) := by decide +kernel
theorem dX5_stands_36 : decode cX5_stands 36 = .ok (.lconst 1, 1) := by decide +kernel
theorem dX5_stands_37 : decode cX5_stands 37 = .ok (.lstore_n 1, 1) := by decide +kernel
theorem dX5_stands_38 : decode cX5_stands 38 = .ok (.lconst 1, 1) := by decide +kernel
theorem dX5_stands_39 : decode cX5_stands 39 = .ok (.lstore_n 3, 1) := by decide +kernel
theorem dX5_stands_40 : decode cX5_stands 40 = .ok (.iconst 0, 1) := by decide +kernel
theorem dX5_stands_41 : decode cX5_stands 41 = .ok (.istore 5, 2) := by decide +kernel
theorem dX5_stands_43 : decode cX5_stands 43 = .ok (.iload 5, 2) := by decide +kernel
theorem dX5_stands_45 : decode cX5_stands 45 = .ok (.aload_n 0, 1) := by decide +kernel
theorem dX5_stands_46 : decode cX5_stands 46 = .ok (.getfield 26, 3) := by decide +kernel
theorem dX5_stands_49 : decode cX5_stands 49 = .ok (.invokevirtual 108, 3) := by decide +kernel
theorem dX5_stands_52 : decode cX5_stands 52 = .ok (.if_icmp .ge 34, 3) := by decide +kernel
theorem dX5_stands_55 : decode cX5_stands 55 = .ok (.lload_n 1, 1) := by decide +kernel
theorem dX5_stands_56 : decode cX5_stands 56 = .ok (.bipush 20, 2) := by decide +kernel
theorem dX5_stands_58 : decode cX5_stands 58 = .ok (.bipush 10, 2) := by decide +kernel
theorem dX5_stands_60 : decode cX5_stands 60 = .ok (.aload_n 0, 1) := by decide +kernel
theorem dX5_stands_61 : decode cX5_stands 61 = .ok (.getfield 26, 3) := by decide +kernel
theorem dX5_stands_64 : decode cX5_stands 64 = .ok (.iload 5, 2) := by decide +kernel
theorem dX5_stands_66 : decode cX5_stands 66 = .ok (.invokevirtual 109, 3) := by decide +kernel
theorem dX5_stands_69 : decode cX5_stands 69 = .ok (.isub, 1) := by decide +kernel
theorem dX5_stands_70 : decode cX5_stands 70 = .ok (.isub, 1) := by decide +kernel
theorem dX5_stands_71 : decode cX5_stands 71 = .ok (.i2l, 1) := by decide +kernel
theorem dX5_stands_72 : decode cX5_stands 72 = .ok (.lmul, 1) := by decide +kernel
theorem dX5_stands_73 : decode cX5_stands 73 = .ok (.lstore_n 1, 1) := by decide +kernel
theorem dX5_stands_74 : decode cX5_stands 74 = .ok (.lload_n 3, 1) := by decide +kernel
theorem dX5_stands_75 : decode cX5_stands 75 = .ok (.ldc2_w 112, 3) := by decide +kernel
theorem dX5_stands_78 : decode cX5_stands 78 = .ok (.lmul, 1) := by decide +kernel
theorem dX5_stands_79 : decode cX5_stands 79 = .ok (.lstore_n 3, 1) := by decide +kernel
theorem dX5_stands_80 : decode cX5_stands 80 = .ok (.iinc 5 1, 3) := by decide +kernel
theorem dX5_stands_83 : decode cX5_stands 83 = .ok (.goto (-40), 3) := by decide +kernel
theorem dX5_stands_86 : decode cX5_stands 86 = .ok (.aload_n 0, 1) := by decide +kernel
theorem dX5_stands_87 : decode cX5_stands 87 = .ok (.getfield 40, 3) := by decide +kernel
theorem dX5_stands_90 : decode cX5_stands 90 = .ok (.lload_n 1, 1) := by decide +kernel
theorem dX5_stands_91 : decode cX5_stands 91 = .ok (.lload_n 3, 1) := by decide +kernel
theorem dX5_stands_92 : decode cX5_stands 92 = .ok (.invokevirtual 114, 3) := by decide +kernel
theorem dX5_stands_95 : decode cX5_stands 95 = .ok (.iconst 1, 1) := by decide +kernel
theorem dX5_stands_96 : decode cX5_stands 96 = .ok (.ireturn, 1) := by decide +kernel
set_option maxRecDepth 20000 in
theorem ggX5_give_X4_hasBolt : GoodIn wsX5_give wsX4_hasBolt := goodIn_r _ [6, 7, 92, 93, 94, 95, 96, 97, 98, 99, 100, 101, 102, 103, 104, 105] (by decide +kernel) (by decide +kernel)
set_option maxRecDepth 20000 in
theorem gX5_give_X4_hasBolt : GoodIn wsX5_give (wsV RX5 66 RX4 yX4_hasBolt wsX4_hasBolt) := goodIn_app (goodIn_of _ (by decide +kernel)) ggX5_give_X4_hasBolt
set_option maxRecDepth 20000 in
theorem ggX5_give_X5_noted : GoodIn wsX5_give wsX5_noted := goodIn_r _ [12, 13, 14, 15, 83, 84, 85, 86, 87, 88, 89, 90, 91] (by decide +kernel) (by decide +kernel)
set_option maxRecDepth 20000 in
theorem gX5_give_X5_noted : GoodIn wsX5_give (wsV RX5 48 RX5 yX5_noted wsX5_noted) := goodIn_app (goodIn_of _ (by decide +kernel)) ggX5_give_X5_noted
set_option maxRecDepth 20000 in
theorem ggX5_give_X4_broken : GoodIn wsX5_give wsX4_broken := goodIn_r _ [19, 20, 21, 22, 5, 23, 24, 25, 26, 92, 93, 94, 95, 96, 97, 98, 99, 100, 101, 102, 103, 104, 105] (by decide +kernel) (by decide +kernel)
set_option maxRecDepth 20000 in
theorem gX5_give_X4_broken : GoodIn wsX5_give (wsV RX5 118 RX4 yX4_broken wsX4_broken) := goodIn_app (goodIn_of _ (by decide +kernel)) ggX5_give_X4_broken
set_option maxRecDepth 20000 in
theorem ggX5_give_X4_groups : GoodIn wsX5_give wsX4_groups := goodIn_r _ [30, 31, 32, 33, 34, 5, 35, 7, 92, 93, 94, 95, 96, 97, 98, 99, 100, 101, 102, 103, 104, 105] (by decide +kernel) (by decide +kernel)
set_option maxRecDepth 20000 in
theorem gX5_give_X4_groups : GoodIn wsX5_give (wsV RX5 91 RX4 yX4_groups wsX4_groups) := goodIn_app (goodIn_of _ (by decide +kernel)) ggX5_give_X4_groups
set_option maxRecDepth 20000 in
theorem ggX5_give_X4_groupOf : GoodIn wsX5_give wsX4_groupOf := goodIn_r _ [39, 31, 92, 93, 94, 95, 96, 97, 98, 99, 100, 101, 102, 103, 104, 105] (by decide +kernel) (by decide +kernel)
set_option maxRecDepth 20000 in
theorem gX5_give_X4_groupOf : GoodIn wsX5_give (wsV RX5 125 RX4 yX4_groupOf wsX4_groupOf) := goodIn_app (goodIn_of _ (by decide +kernel)) ggX5_give_X4_groupOf
set_option maxRecDepth 20000 in
theorem ggX5_give_X4_giveNext : GoodIn wsX5_give wsX4_giveNext := goodIn_r _ [43, 24, 44, 25, 45, 46, 47, 48, 20, 21, 22, 5, 23, 26, 49, 50, 51, 52, 53, 54, 55, 56, 57, 58, 59, 60, 3, 4, 6, 7, 61, 62, 63, 64, 65, 66, 67, 68, 69, 70, 71, 72, 73, 74, 75, 76, 77, 78, 79, 80, 81, 82, 92, 93, 94, 95, 96, 97, 98, 99, 100, 101, 102, 103, 104, 105] (by decide +kernel) (by decide +kernel)
set_option maxRecDepth 20000 in
theorem gX5_give_X4_giveNext : GoodIn wsX5_give (wsV RX5 128 RX4 yX4_giveNext wsX4_giveNext) := goodIn_app (goodIn_of _ (by decide +kernel)) ggX5_give_X4_giveNext
theorem dX5_give_0 : decode cX5_give 0 = .ok (.iload_n 1, 1) := by decide +kernel
theorem dX5_give_1 : decode cX5_give 1 = .ok (.iconst (-1), 1) := by decide +kernel
theorem dX5_give_2 : decode cX5_give 2 = .ok (.if_icmp .eq 21, 3) := by decide +kernel
theorem dX5_give_5 : decode cX5_give 5 = .ok (.aload_n 0, 1) := by decide +kernel
theorem dX5_give_6 : decode cX5_give 6 = .ok (.getfield 12, 3) := by decide +kernel
theorem dX5_give_9 : decode cX5_give 9 = .ok (.iload_n 1, 1) := by decide +kernel
theorem dX5_give_10 : decode cX5_give 10 = .ok (.invokevirtual 66, 3) := by decide +kernel
theorem dX5_give_13 : decode cX5_give 13 = .ok (.ifCond .ne 10, 3) := by decide +kernel
theorem dX5_give_16 : decode cX5_give 16 = .ok (.aload_n 0, 1) := by decide +kernel
theorem dX5_give_17 : decode cX5_give 17 = .ok (.bipush (-2), 2) := by decide +kernel
theorem dX5_give_19 : decode cX5_give 19 = .ok (.invokevirtual 48, 3) := by decide +kernel
theorem dX5_give_22 : decode cX5_give 22 = .ok (.ireturn, 1) := by decide +kernel
theorem dX5_give_23 : decode cX5_give 23 = .ok (.aload_n 0, 1) := by decide +kernel
theorem dX5_give_24 : decode cX5_give 24 = .ok (.getfield 12, 3) := by decide +kernel
theorem dX5_give_27 : decode cX5_give 27 = .ok (.invokevirtual 118, 3) := by decide +kernel
theorem dX5_give_30 : decode cX5_give 30 = .ok (.ifCond .ne 20, 3) := by decide +kernel
theorem dX5_give_33 : decode cX5_give 33 = .ok (.aload_n 0, 1) := by decide +kernel
theorem dX5_give_34 : decode cX5_give 34 = .ok (.getfield 12, 3) := by decide +kernel
theorem dX5_give_37 : decode cX5_give 37 = .ok (.getfield 122, 3) := by decide +kernel
theorem dX5_give_40 : decode cX5_give 40 = .ok (.aload_n 0, 1) := by decide +kernel
theorem dX5_give_41 : decode cX5_give 41 = .ok (.getfield 12, 3) := by decide +kernel
theorem dX5_give_44 : decode cX5_give 44 = .ok (.invokevirtual 91, 3) := by decide +kernel
theorem dX5_give_47 : decode cX5_give 47 = .ok (.if_icmp .lt 10, 3) := by decide +kernel
theorem dX5_give_50 : decode cX5_give 50 = .ok (.aload_n 0, 1) := by decide +kernel
theorem dX5_give_51 : decode cX5_give 51 = .ok (.bipush (-3), 2) := by decide +kernel
theorem dX5_give_53 : decode cX5_give 53 = .ok (.invokevirtual 48, 3) := by decide +kernel
theorem dX5_give_56 : decode cX5_give 56 = .ok (.ireturn, 1) := by decide +kernel
theorem dX5_give_57 : decode cX5_give 57 = .ok (.iload_n 1, 1) := by decide +kernel
theorem dX5_give_58 : decode cX5_give 58 = .ok (.iconst (-1), 1) := by decide +kernel
theorem dX5_give_59 : decode cX5_give 59 = .ok (.if_icmp .eq 28, 3) := by decide +kernel
theorem dX5_give_62 : decode cX5_give 62 = .ok (.aload_n 0, 1) := by decide +kernel
theorem dX5_give_63 : decode cX5_give 63 = .ok (.getfield 12, 3) := by decide +kernel
theorem dX5_give_66 : decode cX5_give 66 = .ok (.iload_n 1, 1) := by decide +kernel
theorem dX5_give_67 : decode cX5_give 67 = .ok (.invokevirtual 125, 3) := by decide +kernel
theorem dX5_give_70 : decode cX5_give 70 = .ok (.aload_n 0, 1) := by decide +kernel
theorem dX5_give_71 : decode cX5_give 71 = .ok (.getfield 12, 3) := by decide +kernel
theorem dX5_give_74 : decode cX5_give 74 = .ok (.getfield 122, 3) := by decide +kernel
theorem dX5_give_77 : decode cX5_give 77 = .ok (.if_icmp .eq 10, 3) := by decide +kernel
theorem dX5_give_80 : decode cX5_give 80 = .ok (.aload_n 0, 1) := by decide +kernel
theorem dX5_give_81 : decode cX5_give 81 = .ok (.bipush (-2), 2) := by decide +kernel
theorem dX5_give_83 : decode cX5_give 83 = .ok (.invokevirtual 48, 3) := by decide +kernel
theorem dX5_give_86 : decode cX5_give 86 = .ok (.ireturn, 1) := by decide +kernel
theorem dX5_give_87 : decode cX5_give 87 = .ok (.aload_n 0, 1) := by decide +kernel
theorem dX5_give_88 : decode cX5_give 88 = .ok (.getfield 12, 3) := by decide +kernel
theorem dX5_give_91 : decode cX5_give 91 = .ok (.iload_n 1, 1) := by decide +kernel
theorem dX5_give_92 : decode cX5_give 92 = .ok (.invokevirtual 128, 3) := by decide +kernel
theorem dX5_give_95 : decode cX5_give 95 = .ok (.ireturn, 1) := by decide +kernel
set_option maxRecDepth 20000 in
theorem ggX5_undo_X4_takeBack : GoodIn wsX5_undo wsX4_takeBack := goodIn_r _ [6, 7, 25, 26, 27, 28, 29, 30, 31, 32, 33, 34, 35, 36, 37, 38] (by decide +kernel) (by decide +kernel)
set_option maxRecDepth 20000 in
theorem gX5_undo_X4_takeBack : GoodIn wsX5_undo (wsV RX5 131 RX4 yX4_takeBack wsX4_takeBack) := goodIn_app (goodIn_of _ (by decide +kernel)) ggX5_undo_X4_takeBack
set_option maxRecDepth 20000 in
theorem ggX5_undo_X5_noted : GoodIn wsX5_undo wsX5_noted := goodIn_r _ [12, 13, 14, 15, 16, 17, 18, 19, 20, 21, 22, 23, 24] (by decide +kernel) (by decide +kernel)
set_option maxRecDepth 20000 in
theorem gX5_undo_X5_noted : GoodIn wsX5_undo (wsV RX5 48 RX5 yX5_noted wsX5_noted) := goodIn_app (goodIn_of _ (by decide +kernel)) ggX5_undo_X5_noted
theorem dX5_undo_0 : decode cX5_undo 0 = .ok (.aload_n 0, 1) := by decide +kernel
theorem dX5_undo_1 : decode cX5_undo 1 = .ok (.getfield 12, 3) := by decide +kernel
theorem dX5_undo_4 : decode cX5_undo 4 = .ok (.invokevirtual 131, 3) := by decide +kernel
theorem dX5_undo_7 : decode cX5_undo 7 = .ok (.ifCond .eq 7, 3) := by decide +kernel
theorem dX5_undo_10 : decode cX5_undo 10 = .ok (.iconst 1, 1) := by decide +kernel
theorem dX5_undo_11 : decode cX5_undo 11 = .ok (.goto 9, 3) := by decide +kernel
theorem dX5_undo_14 : decode cX5_undo 14 = .ok (.aload_n 0, 1) := by decide +kernel
theorem dX5_undo_15 : decode cX5_undo 15 = .ok (.bipush (-3), 2) := by decide +kernel
theorem dX5_undo_17 : decode cX5_undo 17 = .ok (.invokevirtual 48, 3) := by decide +kernel
theorem dX5_undo_20 : decode cX5_undo 20 = .ok (.ireturn, 1) := by decide +kernel
set_option maxRecDepth 20000 in
theorem ggX5_now_X4_moodNow : GoodIn wsX5_now wsX4_moodNow := goodIn_r _ [6, 7, 8, 9, 46, 47, 48, 49, 50, 51, 52, 53, 54, 55, 56, 57, 58, 59] (by decide +kernel) (by decide +kernel)
set_option maxRecDepth 20000 in
theorem gX5_now_X4_moodNow : GoodIn wsX5_now (wsV RX5 134 RX4 yX4_moodNow wsX4_moodNow) := goodIn_app (goodIn_of _ (by decide +kernel)) ggX5_now_X4_moodNow
set_option maxRecDepth 20000 in
theorem ggX5_now_X4_givenBits : GoodIn wsX5_now wsX4_givenBits := goodIn_r _ [13, 7, 14, 46, 47, 48, 49, 50, 51, 52, 53, 54, 55, 56, 57, 58, 59] (by decide +kernel) (by decide +kernel)
set_option maxRecDepth 20000 in
theorem gX5_now_X4_givenBits : GoodIn wsX5_now (wsV RX5 137 RX4 yX4_givenBits wsX4_givenBits) := goodIn_app (goodIn_of _ (by decide +kernel)) ggX5_now_X4_givenBits
set_option maxRecDepth 20000 in
theorem ggX5_now_X4_givenWorth : GoodIn wsX5_now wsX4_givenWorth := goodIn_r _ [18, 7, 14, 19, 20, 21, 5, 22, 23, 24, 25, 26, 27, 28, 46, 47, 48, 49, 50, 51, 52, 53, 54, 55, 56, 57, 58, 59] (by decide +kernel) (by decide +kernel)
set_option maxRecDepth 20000 in
theorem gX5_now_X4_givenWorth : GoodIn wsX5_now (wsV RX5 140 RX4 yX4_givenWorth wsX4_givenWorth) := goodIn_app (goodIn_of _ (by decide +kernel)) ggX5_now_X4_givenWorth
set_option maxRecDepth 20000 in
theorem ggX5_now_X5_noted : GoodIn wsX5_now wsX5_noted := goodIn_r _ [33, 34, 35, 36, 37, 38, 39, 40, 41, 42, 43, 44, 45] (by decide +kernel) (by decide +kernel)
set_option maxRecDepth 20000 in
theorem gX5_now_X5_noted : GoodIn wsX5_now (wsV RX5 48 RX5 yX5_noted wsX5_noted) := goodIn_app (goodIn_of _ (by decide +kernel)) ggX5_now_X5_noted
theorem dX5_now_0 : decode cX5_now 0 = .ok (.iload_n 1, 1) := by decide +kernel
theorem dX5_now_1 : decode cX5_now 1 = .ok (.tableswitch 63 0 3 #[31, 39, 47, 55], 31) := by decide +kernel
theorem dX5_now_32 : decode cX5_now 32 = .ok (.aload_n 0, 1) := by decide +kernel
theorem dX5_now_33 : decode cX5_now 33 = .ok (.getfield 12, 3) := by decide +kernel
theorem dX5_now_36 : decode cX5_now 36 = .ok (.invokevirtual 134, 3) := by decide +kernel
theorem dX5_now_39 : decode cX5_now 39 = .ok (.ireturn, 1) := by decide +kernel
theorem dX5_now_40 : decode cX5_now 40 = .ok (.aload_n 0, 1) := by decide +kernel
theorem dX5_now_41 : decode cX5_now 41 = .ok (.getfield 12, 3) := by decide +kernel
theorem dX5_now_44 : decode cX5_now 44 = .ok (.getfield 122, 3) := by decide +kernel
theorem dX5_now_47 : decode cX5_now 47 = .ok (.ireturn, 1) := by decide +kernel
theorem dX5_now_48 : decode cX5_now 48 = .ok (.aload_n 0, 1) := by decide +kernel
theorem dX5_now_49 : decode cX5_now 49 = .ok (.getfield 12, 3) := by decide +kernel
theorem dX5_now_52 : decode cX5_now 52 = .ok (.invokevirtual 137, 3) := by decide +kernel
theorem dX5_now_55 : decode cX5_now 55 = .ok (.ireturn, 1) := by decide +kernel
theorem dX5_now_56 : decode cX5_now 56 = .ok (.aload_n 0, 1) := by decide +kernel
theorem dX5_now_57 : decode cX5_now 57 = .ok (.getfield 12, 3) := by decide +kernel
theorem dX5_now_60 : decode cX5_now 60 = .ok (.invokevirtual 140, 3) := by decide +kernel
theorem dX5_now_63 : decode cX5_now 63 = .ok (.ireturn, 1) := by decide +kernel
theorem dX5_now_64 : decode cX5_now 64 = .ok (.aload_n 0, 1) := by decide +kernel
theorem dX5_now_65 : decode cX5_now 65 = .ok (.bipush (-2), 2) := by decide +kernel
theorem dX5_now_67 : decode cX5_now 67 = .ok (.invokevirtual 48, 3) := by decide +kernel
theorem dX5_now_70 : decode cX5_now 70 = .ok (.ireturn, 1) := by decide +kernel
set_option maxRecDepth 20000 in
theorem ggX5_eaten_X4_hasMoth : GoodIn wsX5_eaten wsX4_hasMoth := goodIn_r _ [6, 7, 79, 80, 81, 82, 83, 84, 85, 86, 87, 88, 89, 90, 91, 92] (by decide +kernel) (by decide +kernel)
set_option maxRecDepth 20000 in
theorem gX5_eaten_X4_hasMoth : GoodIn wsX5_eaten (wsV RX5 62 RX4 yX4_hasMoth wsX4_hasMoth) := goodIn_app (goodIn_of _ (by decide +kernel)) ggX5_eaten_X4_hasMoth
set_option maxRecDepth 20000 in
theorem ggX5_eaten_X5_noted : GoodIn wsX5_eaten wsX5_noted := goodIn_r _ [12, 13, 14, 15, 70, 71, 72, 73, 74, 75, 76, 77, 78] (by decide +kernel) (by decide +kernel)
set_option maxRecDepth 20000 in
theorem gX5_eaten_X5_noted : GoodIn wsX5_eaten (wsV RX5 48 RX5 yX5_noted wsX5_noted) := goodIn_app (goodIn_of _ (by decide +kernel)) ggX5_eaten_X5_noted
set_option maxRecDepth 20000 in
theorem ggX5_eaten_X4_broken : GoodIn wsX5_eaten wsX4_broken := goodIn_r _ [19, 20, 21, 22, 5, 23, 24, 25, 26, 79, 80, 81, 82, 83, 84, 85, 86, 87, 88, 89, 90, 91, 92] (by decide +kernel) (by decide +kernel)
set_option maxRecDepth 20000 in
theorem gX5_eaten_X4_broken : GoodIn wsX5_eaten (wsV RX5 118 RX4 yX4_broken wsX4_broken) := goodIn_app (goodIn_of _ (by decide +kernel)) ggX5_eaten_X4_broken
set_option maxRecDepth 20000 in
theorem ggX5_eaten_X4_eatenBits : GoodIn wsX5_eaten wsX4_eatenBits := goodIn_r _ [30, 7, 31, 32, 33, 5, 34, 35, 36, 37, 38, 24, 39, 40, 41, 42, 43, 44, 45, 46, 47, 48, 49, 50, 51, 52, 53, 54, 55, 56, 57, 58, 59, 60, 61, 3, 4, 6, 62, 63, 64, 65, 79, 80, 81, 82, 83, 84, 85, 86, 87, 88, 89, 90, 91, 92] (by decide +kernel) (by decide +kernel)
set_option maxRecDepth 20000 in
theorem gX5_eaten_X4_eatenBits : GoodIn wsX5_eaten (wsV RX5 143 RX4 yX4_eatenBits wsX4_eatenBits) := goodIn_app (goodIn_of _ (by decide +kernel)) ggX5_eaten_X4_eatenBits
set_option maxRecDepth 20000 in
theorem ggX5_eaten_X4_mealOf : GoodIn wsX5_eaten wsX4_mealOf := goodIn_r _ [69, 31, 32, 33, 5, 34, 35, 36, 37, 38, 24, 39, 40, 41, 42, 43, 44, 45, 46, 47, 48, 49, 50, 51, 52, 53, 54, 55, 56, 57, 58, 59, 60, 61, 3, 4, 6, 7, 62, 63, 64, 65, 79, 80, 81, 82, 83, 84, 85, 86, 87, 88, 89, 90, 91, 92] (by decide +kernel) (by decide +kernel)
set_option maxRecDepth 20000 in
theorem gX5_eaten_X4_mealOf : GoodIn wsX5_eaten (wsV RX5 146 RX4 yX4_mealOf wsX4_mealOf) := goodIn_app (goodIn_of _ (by decide +kernel)) ggX5_eaten_X4_mealOf
theorem dX5_eaten_0 : decode cX5_eaten 0 = .ok (.iload_n 1, 1) := by decide +kernel
theorem dX5_eaten_1 : decode cX5_eaten 1 = .ok (.iconst (-1), 1) := by decide +kernel
theorem dX5_eaten_2 : decode cX5_eaten 2 = .ok (.if_icmp .eq 21, 3) := by decide +kernel
theorem dX5_eaten_5 : decode cX5_eaten 5 = .ok (.aload_n 0, 1) := by decide +kernel
theorem dX5_eaten_6 : decode cX5_eaten 6 = .ok (.getfield 12, 3) := by decide +kernel
theorem dX5_eaten_9 : decode cX5_eaten 9 = .ok (.iload_n 1, 1) := by decide +kernel
theorem dX5_eaten_10 : decode cX5_eaten 10 = .ok (.invokevirtual 62, 3) := by decide +kernel
theorem dX5_eaten_13 : decode cX5_eaten 13 = .ok (.ifCond .ne 10, 3) := by decide +kernel
theorem dX5_eaten_16 : decode cX5_eaten 16 = .ok (.aload_n 0, 1) := by decide +kernel
theorem dX5_eaten_17 : decode cX5_eaten 17 = .ok (.bipush (-10), 2) := by decide +kernel
theorem dX5_eaten_19 : decode cX5_eaten 19 = .ok (.invokevirtual 48, 3) := by decide +kernel
theorem dX5_eaten_22 : decode cX5_eaten 22 = .ok (.ireturn, 1) := by decide +kernel
theorem dX5_eaten_23 : decode cX5_eaten 23 = .ok (.aload_n 0, 1) := by decide +kernel
theorem dX5_eaten_24 : decode cX5_eaten 24 = .ok (.getfield 12, 3) := by decide +kernel
theorem dX5_eaten_27 : decode cX5_eaten 27 = .ok (.invokevirtual 118, 3) := by decide +kernel
theorem dX5_eaten_30 : decode cX5_eaten 30 = .ok (.ifCond .ne 10, 3) := by decide +kernel
theorem dX5_eaten_33 : decode cX5_eaten 33 = .ok (.aload_n 0, 1) := by decide +kernel
theorem dX5_eaten_34 : decode cX5_eaten 34 = .ok (.bipush (-20), 2) := by decide +kernel
theorem dX5_eaten_36 : decode cX5_eaten 36 = .ok (.invokevirtual 48, 3) := by decide +kernel
theorem dX5_eaten_39 : decode cX5_eaten 39 = .ok (.ireturn, 1) := by decide +kernel
theorem dX5_eaten_40 : decode cX5_eaten 40 = .ok (.iload_n 1, 1) := by decide +kernel
theorem dX5_eaten_41 : decode cX5_eaten 41 = .ok (.iconst (-1), 1) := by decide +kernel
theorem dX5_eaten_42 : decode cX5_eaten 42 = .ok (.if_icmp .ne 13, 3) := by decide +kernel
theorem dX5_eaten_45 : decode cX5_eaten 45 = .ok (.aload_n 0, 1) := by decide +kernel
theorem dX5_eaten_46 : decode cX5_eaten 46 = .ok (.getfield 12, 3) := by decide +kernel
theorem dX5_eaten_49 : decode cX5_eaten 49 = .ok (.invokevirtual 143, 3) := by decide +kernel
theorem dX5_eaten_52 : decode cX5_eaten 52 = .ok (.goto 11, 3) := by decide +kernel
theorem dX5_eaten_55 : decode cX5_eaten 55 = .ok (.aload_n 0, 1) := by decide +kernel
theorem dX5_eaten_56 : decode cX5_eaten 56 = .ok (.getfield 12, 3) := by decide +kernel
theorem dX5_eaten_59 : decode cX5_eaten 59 = .ok (.iload_n 1, 1) := by decide +kernel
theorem dX5_eaten_60 : decode cX5_eaten 60 = .ok (.invokevirtual 146, 3) := by decide +kernel
theorem dX5_eaten_63 : decode cX5_eaten 63 = .ok (.ireturn, 1) := by decide +kernel
set_option maxRecDepth 20000 in
theorem ggX5_drawn_X5_noted : GoodIn wsX5_drawn wsX5_noted := goodIn_r _ [13, 14, 15, 16, 101, 102, 103, 104, 105, 106, 107, 108, 109] (by decide +kernel) (by decide +kernel)
set_option maxRecDepth 20000 in
theorem gX5_drawn_X5_noted : GoodIn wsX5_drawn (wsV RX5 48 RX5 yX5_noted wsX5_noted) := goodIn_app (goodIn_of _ (by decide +kernel)) ggX5_drawn_X5_noted
set_option maxRecDepth 20000 in
theorem ggX5_drawn_X3_lay : GoodIn wsX5_drawn wsX3_lay := goodIn_r _ [21, 22, 23, 24, 25, 26, 27, 28, 29, 30, 31, 32, 33, 34, 35, 36, 37, 38, 39, 40, 41, 42, 43, 44, 45, 46, 47, 48, 49, 50, 51, 52, 53, 54, 55, 56, 57, 58, 59, 60, 61, 62, 63, 64, 65, 66, 67, 20, 68, 69, 70, 71, 72, 73, 74, 75, 76, 77, 78, 79, 80, 81, 82, 83, 84, 85, 86, 87, 88, 110, 111, 112, 113, 114, 115, 116, 117, 118, 119, 120, 121, 122, 123, 124, 125, 126, 127, 128, 129, 130] (by decide +kernel) (by decide +kernel)
set_option maxRecDepth 20000 in
theorem gX5_drawn_X3_lay : GoodIn wsX5_drawn (wsV RX5 98 RX3 yX3_lay wsX3_lay) := goodIn_app (goodIn_of _ (by decide +kernel)) ggX5_drawn_X3_lay
set_option maxRecDepth 20000 in
theorem ggX5_drawn_X3_worth : GoodIn wsX5_drawn wsX3_worth := goodIn_r _ [92, 86, 124, 125, 126, 127, 128, 129, 130] (by decide +kernel) (by decide +kernel)
set_option maxRecDepth 20000 in
theorem gX5_drawn_X3_worth : GoodIn wsX5_drawn (wsV RX5 102 RX3 yX3_worth wsX3_worth) := goodIn_app (goodIn_of _ (by decide +kernel)) ggX5_drawn_X3_worth
set_option maxRecDepth 20000 in
theorem ggX5_drawn_X3_groups : GoodIn wsX5_drawn wsX3_groups := goodIn_r _ [96, 27, 124, 125, 126, 127, 128, 129, 130] (by decide +kernel) (by decide +kernel)
set_option maxRecDepth 20000 in
theorem gX5_drawn_X3_groups : GoodIn wsX5_drawn (wsV RX5 108 RX3 yX3_groups wsX3_groups) := goodIn_app (goodIn_of _ (by decide +kernel)) ggX5_drawn_X3_groups
set_option maxRecDepth 20000 in
theorem ggX5_drawn_X3_moodAhead : GoodIn wsX5_drawn wsX3_moodAhead := goodIn_r _ [100, 86, 27, 88, 124, 125, 126, 127, 128, 129, 130] (by decide +kernel) (by decide +kernel)
set_option maxRecDepth 20000 in
theorem gX5_drawn_X3_moodAhead : GoodIn wsX5_drawn (wsV RX5 109 RX3 yX3_moodAhead wsX3_moodAhead) := goodIn_app (goodIn_of _ (by decide +kernel)) ggX5_drawn_X3_moodAhead
theorem dX5_drawn_0 : decode cX5_drawn 0 = .ok (.iload_n 1, 1) := by decide +kernel
theorem dX5_drawn_1 : decode cX5_drawn 1 = .ok (.ifCond .lt 9, 3) := by decide +kernel
theorem dX5_drawn_4 : decode cX5_drawn 4 = .ok (.iload_n 1, 1) := by decide +kernel
theorem dX5_drawn_5 : decode cX5_drawn 5 = .ok (.ldc 149, 2) := by decide +kernel
theorem dX5_drawn_7 : decode cX5_drawn 7 = .ok (.if_icmp .le 10, 3) := by decide +kernel
theorem dX5_drawn_10 : decode cX5_drawn 10 = .ok (.aload_n 0, 1) := by decide +kernel
theorem dX5_drawn_11 : decode cX5_drawn 11 = .ok (.bipush (-2), 2) := by decide +kernel
theorem dX5_drawn_13 : decode cX5_drawn 13 = .ok (.invokevirtual 48, 3) := by decide +kernel
theorem dX5_drawn_16 : decode cX5_drawn 16 = .ok (.ireturn, 1) := by decide +kernel
theorem dX5_drawn_17 : decode cX5_drawn 17 = .ok (.aload_n 0, 1) := by decide +kernel
theorem dX5_drawn_18 : decode cX5_drawn 18 = .ok (.getfield 26, 3) := by decide +kernel
theorem dX5_drawn_21 : decode cX5_drawn 21 = .ok (.aload_n 0, 1) := by decide +kernel
theorem dX5_drawn_22 : decode cX5_drawn 22 = .ok (.getfield 12, 3) := by decide +kernel
theorem dX5_drawn_25 : decode cX5_drawn 25 = .ok (.aload_n 0, 1) := by decide +kernel
theorem dX5_drawn_26 : decode cX5_drawn 26 = .ok (.getfield 12, 3) := by decide +kernel
theorem dX5_drawn_29 : decode cX5_drawn 29 = .ok (.getfield 94, 3) := by decide +kernel
theorem dX5_drawn_32 : decode cX5_drawn 32 = .ok (.invokevirtual 98, 3) := by decide +kernel
theorem dX5_drawn_35 : decode cX5_drawn 35 = .ok (.aload_n 0, 1) := by decide +kernel
theorem dX5_drawn_36 : decode cX5_drawn 36 = .ok (.getfield 26, 3) := by decide +kernel
theorem dX5_drawn_39 : decode cX5_drawn 39 = .ok (.invokevirtual 102, 3) := by decide +kernel
theorem dX5_drawn_42 : decode cX5_drawn 42 = .ok (.iconst (-1), 1) := by decide +kernel
theorem dX5_drawn_43 : decode cX5_drawn 43 = .ok (.if_icmp .ne 10, 3) := by decide +kernel
theorem dX5_drawn_46 : decode cX5_drawn 46 = .ok (.aload_n 0, 1) := by decide +kernel
theorem dX5_drawn_47 : decode cX5_drawn 47 = .ok (.bipush (-3), 2) := by decide +kernel
theorem dX5_drawn_49 : decode cX5_drawn 49 = .ok (.invokevirtual 48, 3) := by decide +kernel
theorem dX5_drawn_52 : decode cX5_drawn 52 = .ok (.ireturn, 1) := by decide +kernel
theorem dX5_drawn_53 : decode cX5_drawn 53 = .ok (.iload_n 1, 1) := by decide +kernel
theorem dX5_drawn_54 : decode cX5_drawn 54 = .ok (.i2l, 1) := by decide +kernel
theorem dX5_drawn_55 : decode cX5_drawn 55 = .ok (.lstore_n 2, 1) := by decide +kernel
theorem dX5_drawn_56 : decode cX5_drawn 56 = .ok (.iconst 0, 1) := by decide +kernel
theorem dX5_drawn_57 : decode cX5_drawn 57 = .ok (.istore 4, 2) := by decide +kernel
theorem dX5_drawn_59 : decode cX5_drawn 59 = .ok (.iload 4, 2) := by decide +kernel
theorem dX5_drawn_61 : decode cX5_drawn 61 = .ok (.aload_n 0, 1) := by decide +kernel
theorem dX5_drawn_62 : decode cX5_drawn 62 = .ok (.getfield 26, 3) := by decide +kernel
theorem dX5_drawn_65 : decode cX5_drawn 65 = .ok (.invokevirtual 108, 3) := by decide +kernel
theorem dX5_drawn_68 : decode cX5_drawn 68 = .ok (.if_icmp .ge 52, 3) := by decide +kernel
theorem dX5_drawn_71 : decode cX5_drawn 71 = .ok (.lload_n 2, 1) := by decide +kernel
theorem dX5_drawn_72 : decode cX5_drawn 72 = .ok (.ldc2_w 150, 3) := by decide +kernel
theorem dX5_drawn_75 : decode cX5_drawn 75 = .ok (.lmul, 1) := by decide +kernel
theorem dX5_drawn_76 : decode cX5_drawn 76 = .ok (.ldc2_w 152, 3) := by decide +kernel
theorem dX5_drawn_79 : decode cX5_drawn 79 = .ok (.ladd, 1) := by decide +kernel
theorem dX5_drawn_80 : decode cX5_drawn 80 = .ok (.ldc2_w 154, 3) := by decide +kernel
theorem dX5_drawn_83 : decode cX5_drawn 83 = .ok (.lrem, 1) := by decide +kernel
theorem dX5_drawn_84 : decode cX5_drawn 84 = .ok (.lstore_n 2, 1) := by decide +kernel
theorem dX5_drawn_85 : decode cX5_drawn 85 = .ok (.lload_n 2, 1) := by decide +kernel
theorem dX5_drawn_86 : decode cX5_drawn 86 = .ok (.ldc2_w 156, 3) := by decide +kernel
theorem dX5_drawn_89 : decode cX5_drawn 89 = .ok (.ldiv, 1) := by decide +kernel
theorem dX5_drawn_90 : decode cX5_drawn 90 = .ok (.ldc2_w 112, 3) := by decide +kernel
theorem dX5_drawn_93 : decode cX5_drawn 93 = .ok (.lrem, 1) := by decide +kernel
theorem dX5_drawn_94 : decode cX5_drawn 94 = .ok (.bipush 10, 2) := by decide +kernel
theorem dX5_drawn_96 : decode cX5_drawn 96 = .ok (.aload_n 0, 1) := by decide +kernel
theorem dX5_drawn_97 : decode cX5_drawn 97 = .ok (.getfield 26, 3) := by decide +kernel
theorem dX5_drawn_100 : decode cX5_drawn 100 = .ok (.iload 4, 2) := by decide +kernel
theorem dX5_drawn_102 : decode cX5_drawn 102 = .ok (.invokevirtual 109, 3) := by decide +kernel
theorem dX5_drawn_105 : decode cX5_drawn 105 = .ok (.isub, 1) := by decide +kernel
theorem dX5_drawn_106 : decode cX5_drawn 106 = .ok (.i2l, 1) := by decide +kernel
theorem dX5_drawn_107 : decode cX5_drawn 107 = .ok (.lcmp, 1) := by decide +kernel
theorem dX5_drawn_108 : decode cX5_drawn 108 = .ok (.ifCond .ge 6, 3) := by decide +kernel
theorem dX5_drawn_111 : decode cX5_drawn 111 = .ok (.iload 4, 2) := by decide +kernel
theorem dX5_drawn_113 : decode cX5_drawn 113 = .ok (.ireturn, 1) := by decide +kernel
theorem dX5_drawn_114 : decode cX5_drawn 114 = .ok (.iinc 4 1, 3) := by decide +kernel
theorem dX5_drawn_117 : decode cX5_drawn 117 = .ok (.goto (-58), 3) := by decide +kernel
theorem dX5_drawn_120 : decode cX5_drawn 120 = .ok (.iconst (-1), 1) := by decide +kernel
theorem dX5_drawn_121 : decode cX5_drawn 121 = .ok (.ireturn, 1) := by decide +kernel
set_option maxRecDepth 20000 in
theorem ggX5_holes_X4_setHoles : GoodIn wsX5_holes wsX4_setHoles := goodIn_r _ [6, 7, 8, 9, 10, 5, 11, 12, 30, 31, 32, 33, 34, 35, 36, 37, 38, 39, 40, 41, 42, 43] (by decide +kernel) (by decide +kernel)
set_option maxRecDepth 20000 in
theorem gX5_holes_X4_setHoles : GoodIn wsX5_holes (wsV RX5 158 RX4 yX4_setHoles wsX4_setHoles) := goodIn_app (goodIn_of _ (by decide +kernel)) ggX5_holes_X4_setHoles
set_option maxRecDepth 20000 in
theorem ggX5_holes_X5_noted : GoodIn wsX5_holes wsX5_noted := goodIn_r _ [17, 18, 19, 20, 21, 22, 23, 24, 25, 26, 27, 28, 29] (by decide +kernel) (by decide +kernel)
set_option maxRecDepth 20000 in
theorem gX5_holes_X5_noted : GoodIn wsX5_holes (wsV RX5 48 RX5 yX5_noted wsX5_noted) := goodIn_app (goodIn_of _ (by decide +kernel)) ggX5_holes_X5_noted
theorem dX5_holes_0 : decode cX5_holes 0 = .ok (.aload_n 0, 1) := by decide +kernel
theorem dX5_holes_1 : decode cX5_holes 1 = .ok (.aload_n 0, 1) := by decide +kernel
theorem dX5_holes_2 : decode cX5_holes 2 = .ok (.getfield 12, 3) := by decide +kernel
theorem dX5_holes_5 : decode cX5_holes 5 = .ok (.iload_n 1, 1) := by decide +kernel
theorem dX5_holes_6 : decode cX5_holes 6 = .ok (.iload_n 2, 1) := by decide +kernel
theorem dX5_holes_7 : decode cX5_holes 7 = .ok (.invokevirtual 158, 3) := by decide +kernel
theorem dX5_holes_10 : decode cX5_holes 10 = .ok (.invokevirtual 48, 3) := by decide +kernel
theorem dX5_holes_13 : decode cX5_holes 13 = .ok (.ireturn, 1) := by decide +kernel
set_option maxRecDepth 20000 in
theorem ggX5_byWhom_X5_noted : GoodIn wsX5_byWhom wsX5_noted := goodIn_r _ [6, 7, 8, 9, 62, 63, 64, 65, 66, 67, 68, 69, 70] (by decide +kernel) (by decide +kernel)
set_option maxRecDepth 20000 in
theorem gX5_byWhom_X5_noted : GoodIn wsX5_byWhom (wsV RX5 48 RX5 yX5_noted wsX5_noted) := goodIn_app (goodIn_of _ (by decide +kernel)) ggX5_byWhom_X5_noted
set_option maxRecDepth 20000 in
theorem ggX5_byWhom_X4_setsThatFit : GoodIn wsX5_byWhom wsX4_setsThatFit := goodIn_r _ [14, 15, 16, 17, 18, 13, 19, 20, 21, 22, 23, 24, 25, 26, 27, 28, 29, 30, 31, 32, 33, 34, 35, 36, 37, 38, 39, 40, 41, 42, 43, 44, 45, 46, 47, 48, 49, 50, 51, 52, 53, 54, 55, 56, 57, 71, 72, 73, 74, 75, 76, 77, 78, 79, 80, 81, 82, 83, 84] (by decide +kernel) (by decide +kernel)
set_option maxRecDepth 20000 in
theorem gX5_byWhom_X4_setsThatFit : GoodIn wsX5_byWhom (wsV RX5 161 RX4 yX4_setsThatFit wsX4_setsThatFit) := goodIn_app (goodIn_of _ (by decide +kernel)) ggX5_byWhom_X4_setsThatFit
set_option maxRecDepth 20000 in
theorem ggX5_byWhom_X4_leastSet : GoodIn wsX5_byWhom wsX4_leastSet := goodIn_r _ [61, 15, 16, 17, 18, 13, 19, 20, 21, 22, 23, 24, 25, 26, 27, 28, 29, 30, 31, 32, 33, 34, 35, 36, 37, 38, 39, 40, 41, 42, 43, 44, 45, 46, 47, 48, 49, 50, 51, 52, 53, 54, 55, 56, 57, 71, 72, 73, 74, 75, 76, 77, 78, 79, 80, 81, 82, 83, 84] (by decide +kernel) (by decide +kernel)
set_option maxRecDepth 20000 in
theorem gX5_byWhom_X4_leastSet : GoodIn wsX5_byWhom (wsV RX5 164 RX4 yX4_leastSet wsX4_leastSet) := goodIn_app (goodIn_of _ (by decide +kernel)) ggX5_byWhom_X4_leastSet
theorem dX5_byWhom_0 : decode cX5_byWhom 0 = .ok (.iload_n 1, 1) := by decide +kernel
theorem dX5_byWhom_1 : decode cX5_byWhom 1 = .ok (.ifCond .eq 15, 3) := by decide +kernel
theorem dX5_byWhom_4 : decode cX5_byWhom 4 = .ok (.iload_n 1, 1) := by decide +kernel
theorem dX5_byWhom_5 : decode cX5_byWhom 5 = .ok (.iconst 1, 1) := by decide +kernel
theorem dX5_byWhom_6 : decode cX5_byWhom 6 = .ok (.if_icmp .eq 10, 3) := by decide +kernel
theorem dX5_byWhom_9 : decode cX5_byWhom 9 = .ok (.aload_n 0, 1) := by decide +kernel
theorem dX5_byWhom_10 : decode cX5_byWhom 10 = .ok (.bipush (-2), 2) := by decide +kernel
theorem dX5_byWhom_12 : decode cX5_byWhom 12 = .ok (.invokevirtual 48, 3) := by decide +kernel
theorem dX5_byWhom_15 : decode cX5_byWhom 15 = .ok (.ireturn, 1) := by decide +kernel
theorem dX5_byWhom_16 : decode cX5_byWhom 16 = .ok (.iload_n 1, 1) := by decide +kernel
theorem dX5_byWhom_17 : decode cX5_byWhom 17 = .ok (.ifCond .ne 11, 3) := by decide +kernel
theorem dX5_byWhom_20 : decode cX5_byWhom 20 = .ok (.aload_n 0, 1) := by decide +kernel
theorem dX5_byWhom_21 : decode cX5_byWhom 21 = .ok (.getfield 12, 3) := by decide +kernel
theorem dX5_byWhom_24 : decode cX5_byWhom 24 = .ok (.invokevirtual 161, 3) := by decide +kernel
theorem dX5_byWhom_27 : decode cX5_byWhom 27 = .ok (.ireturn, 1) := by decide +kernel
theorem dX5_byWhom_28 : decode cX5_byWhom 28 = .ok (.aload_n 0, 1) := by decide +kernel
theorem dX5_byWhom_29 : decode cX5_byWhom 29 = .ok (.getfield 12, 3) := by decide +kernel
theorem dX5_byWhom_32 : decode cX5_byWhom 32 = .ok (.invokevirtual 164, 3) := by decide +kernel
theorem dX5_byWhom_35 : decode cX5_byWhom 35 = .ok (.istore_n 2, 1) := by decide +kernel
theorem dX5_byWhom_36 : decode cX5_byWhom 36 = .ok (.iload_n 2, 1) := by decide +kernel
theorem dX5_byWhom_37 : decode cX5_byWhom 37 = .ok (.iconst (-1), 1) := by decide +kernel
theorem dX5_byWhom_38 : decode cX5_byWhom 38 = .ok (.if_icmp .ne 12, 3) := by decide +kernel
theorem dX5_byWhom_41 : decode cX5_byWhom 41 = .ok (.aload_n 0, 1) := by decide +kernel
theorem dX5_byWhom_42 : decode cX5_byWhom 42 = .ok (.bipush (-3), 2) := by decide +kernel
theorem dX5_byWhom_44 : decode cX5_byWhom 44 = .ok (.invokevirtual 48, 3) := by decide +kernel
theorem dX5_byWhom_47 : decode cX5_byWhom 47 = .ok (.goto 4, 3) := by decide +kernel
theorem dX5_byWhom_50 : decode cX5_byWhom 50 = .ok (.iload_n 2, 1) := by decide +kernel
theorem dX5_byWhom_51 : decode cX5_byWhom 51 = .ok (.ireturn, 1) := by decide +kernel
set_option maxRecDepth 20000 in
theorem ggX5_mouth_X4_holesAreTold : GoodIn wsX5_mouth wsX4_holesAreTold := goodIn_r _ [6, 7, 8, 9, 5, 10, 11, 12, 13, 14, 15, 16, 72, 73, 74, 75, 76, 77, 78, 79, 80, 81, 82, 83, 84, 85] (by decide +kernel) (by decide +kernel)
set_option maxRecDepth 20000 in
theorem gX5_mouth_X4_holesAreTold : GoodIn wsX5_mouth (wsV RX5 167 RX4 yX4_holesAreTold wsX4_holesAreTold) := goodIn_app (goodIn_of _ (by decide +kernel)) ggX5_mouth_X4_holesAreTold
set_option maxRecDepth 20000 in
theorem ggX5_mouth_X5_noted : GoodIn wsX5_mouth wsX5_noted := goodIn_r _ [21, 22, 23, 24, 63, 64, 65, 66, 67, 68, 69, 70, 71] (by decide +kernel) (by decide +kernel)
set_option maxRecDepth 20000 in
theorem gX5_mouth_X5_noted : GoodIn wsX5_mouth (wsV RX5 48 RX5 yX5_noted wsX5_noted) := goodIn_app (goodIn_of _ (by decide +kernel)) ggX5_mouth_X5_noted
set_option maxRecDepth 20000 in
theorem ggX5_mouth_X4_leastSet : GoodIn wsX5_mouth wsX4_leastSet := goodIn_r _ [28, 29, 30, 31, 32, 5, 33, 16, 11, 34, 3, 4, 6, 7, 8, 9, 10, 12, 13, 14, 15, 35, 36, 37, 38, 39, 40, 41, 42, 43, 44, 45, 46, 47, 48, 49, 50, 51, 52, 53, 54, 55, 56, 57, 58, 72, 73, 74, 75, 76, 77, 78, 79, 80, 81, 82, 83, 84, 85] (by decide +kernel) (by decide +kernel)
set_option maxRecDepth 20000 in
theorem gX5_mouth_X4_leastSet : GoodIn wsX5_mouth (wsV RX5 164 RX4 yX4_leastSet wsX4_leastSet) := goodIn_app (goodIn_of _ (by decide +kernel)) ggX5_mouth_X4_leastSet
set_option maxRecDepth 20000 in
theorem ggX5_mouth_X4_mouthAt : GoodIn wsX5_mouth wsX4_mouthAt := goodIn_r _ [62, 29, 39, 40, 41, 5, 42, 43, 12, 13, 14, 15, 16, 44, 45, 46, 47, 48, 49, 50, 51, 52, 53, 54, 55, 56, 57, 58, 72, 73, 74, 75, 76, 77, 78, 79, 80, 81, 82, 83, 84, 85] (by decide +kernel) (by decide +kernel)
set_option maxRecDepth 20000 in
theorem gX5_mouth_X4_mouthAt : GoodIn wsX5_mouth (wsV RX5 170 RX4 yX4_mouthAt wsX4_mouthAt) := goodIn_app (goodIn_of _ (by decide +kernel)) ggX5_mouth_X4_mouthAt
theorem dX5_mouth_0 : decode cX5_mouth 0 = .ok (.aload_n 0, 1) := by decide +kernel
theorem dX5_mouth_1 : decode cX5_mouth 1 = .ok (.getfield 12, 3) := by decide +kernel
theorem dX5_mouth_4 : decode cX5_mouth 4 = .ok (.iload_n 1, 1) := by decide +kernel
theorem dX5_mouth_5 : decode cX5_mouth 5 = .ok (.invokevirtual 167, 3) := by decide +kernel
theorem dX5_mouth_8 : decode cX5_mouth 8 = .ok (.ifCond .eq 7, 3) := by decide +kernel
theorem dX5_mouth_11 : decode cX5_mouth 11 = .ok (.iload_n 2, 1) := by decide +kernel
theorem dX5_mouth_12 : decode cX5_mouth 12 = .ok (.ifCond .ge 10, 3) := by decide +kernel
theorem dX5_mouth_15 : decode cX5_mouth 15 = .ok (.aload_n 0, 1) := by decide +kernel
theorem dX5_mouth_16 : decode cX5_mouth 16 = .ok (.bipush (-2), 2) := by decide +kernel
theorem dX5_mouth_18 : decode cX5_mouth 18 = .ok (.invokevirtual 48, 3) := by decide +kernel
theorem dX5_mouth_21 : decode cX5_mouth 21 = .ok (.ireturn, 1) := by decide +kernel
theorem dX5_mouth_22 : decode cX5_mouth 22 = .ok (.aload_n 0, 1) := by decide +kernel
theorem dX5_mouth_23 : decode cX5_mouth 23 = .ok (.getfield 12, 3) := by decide +kernel
theorem dX5_mouth_26 : decode cX5_mouth 26 = .ok (.invokevirtual 164, 3) := by decide +kernel
theorem dX5_mouth_29 : decode cX5_mouth 29 = .ok (.istore_n 3, 1) := by decide +kernel
theorem dX5_mouth_30 : decode cX5_mouth 30 = .ok (.iload_n 3, 1) := by decide +kernel
theorem dX5_mouth_31 : decode cX5_mouth 31 = .ok (.iconst (-1), 1) := by decide +kernel
theorem dX5_mouth_32 : decode cX5_mouth 32 = .ok (.if_icmp .ne 12, 3) := by decide +kernel
theorem dX5_mouth_35 : decode cX5_mouth 35 = .ok (.aload_n 0, 1) := by decide +kernel
theorem dX5_mouth_36 : decode cX5_mouth 36 = .ok (.bipush (-3), 2) := by decide +kernel
theorem dX5_mouth_38 : decode cX5_mouth 38 = .ok (.invokevirtual 48, 3) := by decide +kernel
theorem dX5_mouth_41 : decode cX5_mouth 41 = .ok (.goto 13, 3) := by decide +kernel
theorem dX5_mouth_44 : decode cX5_mouth 44 = .ok (.aload_n 0, 1) := by decide +kernel
theorem dX5_mouth_45 : decode cX5_mouth 45 = .ok (.getfield 12, 3) := by decide +kernel
theorem dX5_mouth_48 : decode cX5_mouth 48 = .ok (.iload_n 1, 1) := by decide +kernel
theorem dX5_mouth_49 : decode cX5_mouth 49 = .ok (.iload_n 2, 1) := by decide +kernel
theorem dX5_mouth_50 : decode cX5_mouth 50 = .ok (.iload_n 3, 1) := by decide +kernel
theorem dX5_mouth_51 : decode cX5_mouth 51 = .ok (.invokevirtual 170, 3) := by decide +kernel
theorem dX5_mouth_54 : decode cX5_mouth 54 = .ok (.ireturn, 1) := by decide +kernel
set_option maxRecDepth 20000 in
theorem ggX5_cedar_X5_noted : GoodIn wsX5_cedar wsX5_noted := goodIn_r _ [6, 7, 8, 9, 45, 46, 47, 48, 49, 50, 51, 52, 53] (by decide +kernel) (by decide +kernel)
set_option maxRecDepth 20000 in
theorem gX5_cedar_X5_noted : GoodIn wsX5_cedar (wsV RX5 48 RX5 yX5_noted wsX5_noted) := goodIn_app (goodIn_of _ (by decide +kernel)) ggX5_cedar_X5_noted
set_option maxRecDepth 20000 in
theorem ggX5_cedar_X4_cedarFor : GoodIn wsX5_cedar wsX4_cedarFor := goodIn_r _ [14, 15, 16, 17, 18, 19, 13, 20, 21, 22, 23, 24, 25, 26, 27, 28, 29, 30, 31, 32, 33, 34, 35, 36, 37, 38, 39, 40, 41, 42, 43, 44, 54, 55, 56, 57, 58, 59, 60, 61, 62, 63, 64, 65, 66, 67] (by decide +kernel) (by decide +kernel)
set_option maxRecDepth 20000 in
theorem gX5_cedar_X4_cedarFor : GoodIn wsX5_cedar (wsV RX5 173 RX4 yX4_cedarFor wsX4_cedarFor) := goodIn_app (goodIn_of _ (by decide +kernel)) ggX5_cedar_X4_cedarFor
theorem dX5_cedar_0 : decode cX5_cedar 0 = .ok (.iload_n 1, 1) := by decide +kernel
theorem dX5_cedar_1 : decode cX5_cedar 1 = .ok (.ifCond .lt 9, 3) := by decide +kernel
theorem dX5_cedar_4 : decode cX5_cedar 4 = .ok (.iload_n 1, 1) := by decide +kernel
theorem dX5_cedar_5 : decode cX5_cedar 5 = .ok (.bipush 40, 2) := by decide +kernel
theorem dX5_cedar_7 : decode cX5_cedar 7 = .ok (.if_icmp .le 10, 3) := by decide +kernel
theorem dX5_cedar_10 : decode cX5_cedar 10 = .ok (.aload_n 0, 1) := by decide +kernel
theorem dX5_cedar_11 : decode cX5_cedar 11 = .ok (.bipush (-2), 2) := by decide +kernel
theorem dX5_cedar_13 : decode cX5_cedar 13 = .ok (.invokevirtual 48, 3) := by decide +kernel
theorem dX5_cedar_16 : decode cX5_cedar 16 = .ok (.ireturn, 1) := by decide +kernel
theorem dX5_cedar_17 : decode cX5_cedar 17 = .ok (.aload_n 0, 1) := by decide +kernel
theorem dX5_cedar_18 : decode cX5_cedar 18 = .ok (.getfield 12, 3) := by decide +kernel
theorem dX5_cedar_21 : decode cX5_cedar 21 = .ok (.iload_n 1, 1) := by decide +kernel
theorem dX5_cedar_22 : decode cX5_cedar 22 = .ok (.invokevirtual 173, 3) := by decide +kernel
theorem dX5_cedar_25 : decode cX5_cedar 25 = .ok (.ireturn, 1) := by decide +kernel
set_option maxRecDepth 20000 in
theorem ggX5_oracle_X5_noted : GoodIn wsX5_oracle wsX5_noted := goodIn_r _ [6, 7, 8, 9, 20, 21, 22, 23, 24, 25, 26, 27, 28] (by decide +kernel) (by decide +kernel)
set_option maxRecDepth 20000 in
theorem gX5_oracle_X5_noted : GoodIn wsX5_oracle (wsV RX5 48 RX5 yX5_noted wsX5_noted) := goodIn_app (goodIn_of _ (by decide +kernel)) ggX5_oracle_X5_noted
set_option maxRecDepth 20000 in
theorem ggX5_oracle_X2_become : GoodIn wsX5_oracle wsX2_become := goodIn_r _ [14, 15, 16, 17, 18, 13, 19, 29, 30] (by decide +kernel) (by decide +kernel)
set_option maxRecDepth 20000 in
theorem gX5_oracle_X2_become : GoodIn wsX5_oracle (wsV RX5 114 RX2 yX2_become wsX2_become) := goodIn_app (goodIn_of _ (by decide +kernel)) ggX5_oracle_X2_become
theorem dX5_oracle_0 : decode cX5_oracle 0 = .ok (.iload_n 1, 1) := by decide +kernel
theorem dX5_oracle_1 : decode cX5_oracle 1 = .ok (.iconst 1, 1) := by decide +kernel
theorem dX5_oracle_2 : decode cX5_oracle 2 = .ok (.if_icmp .lt 18, 3) := by decide +kernel
theorem dX5_oracle_5 : decode cX5_oracle 5 = .ok (.iload_n 1, 1) := by decide +kernel
theorem dX5_oracle_6 : decode cX5_oracle 6 = .ok (.bipush 30, 2) := by decide +kernel
theorem dX5_oracle_8 : decode cX5_oracle 8 = .ok (.if_icmp .gt 12, 3) := by decide +kernel
theorem dX5_oracle_11 : decode cX5_oracle 11 = .ok (.iload_n 2, 1) := by decide +kernel
theorem dX5_oracle_12 : decode cX5_oracle 12 = .ok (.ifCond .lt 8, 3) := by decide +kernel
theorem dX5_oracle_15 : decode cX5_oracle 15 = .ok (.iload_n 2, 1) := by decide +kernel
theorem dX5_oracle_16 : decode cX5_oracle 16 = .ok (.iload_n 1, 1) := by decide +kernel
theorem dX5_oracle_17 : decode cX5_oracle 17 = .ok (.if_icmp .le 10, 3) := by decide +kernel
theorem dX5_oracle_20 : decode cX5_oracle 20 = .ok (.aload_n 0, 1) := by decide +kernel
theorem dX5_oracle_21 : decode cX5_oracle 21 = .ok (.bipush (-2), 2) := by decide +kernel
theorem dX5_oracle_23 : decode cX5_oracle 23 = .ok (.invokevirtual 48, 3) := by decide +kernel
theorem dX5_oracle_26 : decode cX5_oracle 26 = .ok (.ireturn, 1) := by decide +kernel
theorem dX5_oracle_27 : decode cX5_oracle 27 = .ok (.lconst 1, 1) := by decide +kernel
theorem dX5_oracle_28 : decode cX5_oracle 28 = .ok (.lstore_n 3, 1) := by decide +kernel
theorem dX5_oracle_29 : decode cX5_oracle 29 = .ok (.lconst 0, 1) := by decide +kernel
theorem dX5_oracle_30 : decode cX5_oracle 30 = .ok (.lstore 5, 2) := by decide +kernel
theorem dX5_oracle_32 : decode cX5_oracle 32 = .ok (.iconst 0, 1) := by decide +kernel
theorem dX5_oracle_33 : decode cX5_oracle 33 = .ok (.istore 7, 2) := by decide +kernel
theorem dX5_oracle_35 : decode cX5_oracle 35 = .ok (.iload 7, 2) := by decide +kernel
theorem dX5_oracle_37 : decode cX5_oracle 37 = .ok (.iload_n 1, 1) := by decide +kernel
theorem dX5_oracle_38 : decode cX5_oracle 38 = .ok (.if_icmp .gt 35, 3) := by decide +kernel
theorem dX5_oracle_41 : decode cX5_oracle 41 = .ok (.iload 7, 2) := by decide +kernel
theorem dX5_oracle_43 : decode cX5_oracle 43 = .ok (.iload_n 2, 1) := by decide +kernel
theorem dX5_oracle_44 : decode cX5_oracle 44 = .ok (.if_icmp .lt 9, 3) := by decide +kernel
theorem dX5_oracle_47 : decode cX5_oracle 47 = .ok (.lload 5, 2) := by decide +kernel
theorem dX5_oracle_49 : decode cX5_oracle 49 = .ok (.lload_n 3, 1) := by decide +kernel
theorem dX5_oracle_50 : decode cX5_oracle 50 = .ok (.ladd, 1) := by decide +kernel
theorem dX5_oracle_51 : decode cX5_oracle 51 = .ok (.lstore 5, 2) := by decide +kernel
theorem dX5_oracle_53 : decode cX5_oracle 53 = .ok (.lload_n 3, 1) := by decide +kernel
theorem dX5_oracle_54 : decode cX5_oracle 54 = .ok (.iload_n 1, 1) := by decide +kernel
theorem dX5_oracle_55 : decode cX5_oracle 55 = .ok (.iload 7, 2) := by decide +kernel
theorem dX5_oracle_57 : decode cX5_oracle 57 = .ok (.isub, 1) := by decide +kernel
theorem dX5_oracle_58 : decode cX5_oracle 58 = .ok (.i2l, 1) := by decide +kernel
theorem dX5_oracle_59 : decode cX5_oracle 59 = .ok (.lmul, 1) := by decide +kernel
theorem dX5_oracle_60 : decode cX5_oracle 60 = .ok (.iload 7, 2) := by decide +kernel
theorem dX5_oracle_62 : decode cX5_oracle 62 = .ok (.iconst 1, 1) := by decide +kernel
theorem dX5_oracle_63 : decode cX5_oracle 63 = .ok (.iadd, 1) := by decide +kernel
theorem dX5_oracle_64 : decode cX5_oracle 64 = .ok (.i2l, 1) := by decide +kernel
theorem dX5_oracle_65 : decode cX5_oracle 65 = .ok (.ldiv, 1) := by decide +kernel
theorem dX5_oracle_66 : decode cX5_oracle 66 = .ok (.lstore_n 3, 1) := by decide +kernel
theorem dX5_oracle_67 : decode cX5_oracle 67 = .ok (.iinc 7 1, 3) := by decide +kernel
theorem dX5_oracle_70 : decode cX5_oracle 70 = .ok (.goto (-35), 3) := by decide +kernel
theorem dX5_oracle_73 : decode cX5_oracle 73 = .ok (.aload_n 0, 1) := by decide +kernel
theorem dX5_oracle_74 : decode cX5_oracle 74 = .ok (.getfield 40, 3) := by decide +kernel
theorem dX5_oracle_77 : decode cX5_oracle 77 = .ok (.lload 5, 2) := by decide +kernel
theorem dX5_oracle_79 : decode cX5_oracle 79 = .ok (.lconst 1, 1) := by decide +kernel
theorem dX5_oracle_80 : decode cX5_oracle 80 = .ok (.iload_n 1, 1) := by decide +kernel
theorem dX5_oracle_81 : decode cX5_oracle 81 = .ok (.lshl, 1) := by decide +kernel
theorem dX5_oracle_82 : decode cX5_oracle 82 = .ok (.invokevirtual 114, 3) := by decide +kernel
theorem dX5_oracle_85 : decode cX5_oracle 85 = .ok (.iconst 1, 1) := by decide +kernel
theorem dX5_oracle_86 : decode cX5_oracle 86 = .ok (.ireturn, 1) := by decide +kernel
set_option maxRecDepth 20000 in
theorem ggX5_tailor_X5_noted : GoodIn wsX5_tailor wsX5_noted := goodIn_r _ [6, 7, 8, 9, 26, 27, 28, 29, 30, 31, 32, 33, 34] (by decide +kernel) (by decide +kernel)
set_option maxRecDepth 20000 in
theorem gX5_tailor_X5_noted : GoodIn wsX5_tailor (wsV RX5 48 RX5 yX5_noted wsX5_noted) := goodIn_app (goodIn_of _ (by decide +kernel)) ggX5_tailor_X5_noted
set_option maxRecDepth 20000 in
theorem ggX5_tailor_X4_mostHoles : GoodIn wsX5_tailor wsX4_mostHoles := goodIn_r _ [14, 15, 16, 17, 18, 13, 19, 20, 21, 22, 23, 24, 35, 36, 37, 38, 39, 40, 41, 42, 43, 44, 45, 46, 47, 48] (by decide +kernel) (by decide +kernel)
set_option maxRecDepth 20000 in
theorem gX5_tailor_X4_mostHoles : GoodIn wsX5_tailor (wsV RX5 176 RX4 yX4_mostHoles wsX4_mostHoles) := goodIn_app (goodIn_of _ (by decide +kernel)) ggX5_tailor_X4_mostHoles
set_option maxRecDepth 20000 in
theorem ggX5_tailor_X4_holesOf : GoodIn wsX5_tailor wsX4_holesOf := goodIn_r _ [19, 20, 21, 22, 23, 13, 24, 15, 35, 36, 37, 38, 39, 40, 41, 42, 43, 44, 45, 46, 47, 48] (by decide +kernel) (by decide +kernel)
set_option maxRecDepth 20000 in
theorem gX5_tailor_X4_holesOf : GoodIn wsX5_tailor (wsV RX5 179 RX4 yX4_holesOf wsX4_holesOf) := goodIn_app (goodIn_of _ (by decide +kernel)) ggX5_tailor_X4_holesOf
theorem dX5_tailor_0 : decode cX5_tailor 0 = .ok (.iload_n 1, 1) := by decide +kernel
theorem dX5_tailor_1 : decode cX5_tailor 1 = .ok (.ifCond .lt 21, 3) := by decide +kernel
theorem dX5_tailor_4 : decode cX5_tailor 4 = .ok (.iload_n 1, 1) := by decide +kernel
theorem dX5_tailor_5 : decode cX5_tailor 5 = .ok (.sipush 999, 3) := by decide +kernel
theorem dX5_tailor_8 : decode cX5_tailor 8 = .ok (.if_icmp .gt 14, 3) := by decide +kernel
theorem dX5_tailor_11 : decode cX5_tailor 11 = .ok (.iload_n 2, 1) := by decide +kernel
theorem dX5_tailor_12 : decode cX5_tailor 12 = .ok (.iconst 1, 1) := by decide +kernel
theorem dX5_tailor_13 : decode cX5_tailor 13 = .ok (.if_icmp .lt 9, 3) := by decide +kernel
theorem dX5_tailor_16 : decode cX5_tailor 16 = .ok (.iload_n 2, 1) := by decide +kernel
theorem dX5_tailor_17 : decode cX5_tailor 17 = .ok (.bipush 9, 2) := by decide +kernel
theorem dX5_tailor_19 : decode cX5_tailor 19 = .ok (.if_icmp .le 10, 3) := by decide +kernel
theorem dX5_tailor_22 : decode cX5_tailor 22 = .ok (.aload_n 0, 1) := by decide +kernel
theorem dX5_tailor_23 : decode cX5_tailor 23 = .ok (.bipush (-2), 2) := by decide +kernel
theorem dX5_tailor_25 : decode cX5_tailor 25 = .ok (.invokevirtual 48, 3) := by decide +kernel
theorem dX5_tailor_28 : decode cX5_tailor 28 = .ok (.ireturn, 1) := by decide +kernel
theorem dX5_tailor_29 : decode cX5_tailor 29 = .ok (.iconst 0, 1) := by decide +kernel
theorem dX5_tailor_30 : decode cX5_tailor 30 = .ok (.istore_n 3, 1) := by decide +kernel
theorem dX5_tailor_31 : decode cX5_tailor 31 = .ok (.iconst 0, 1) := by decide +kernel
theorem dX5_tailor_32 : decode cX5_tailor 32 = .ok (.istore 4, 2) := by decide +kernel
theorem dX5_tailor_34 : decode cX5_tailor 34 = .ok (.iconst 0, 1) := by decide +kernel
theorem dX5_tailor_35 : decode cX5_tailor 35 = .ok (.istore 5, 2) := by decide +kernel
theorem dX5_tailor_37 : decode cX5_tailor 37 = .ok (.iload 5, 2) := by decide +kernel
theorem dX5_tailor_39 : decode cX5_tailor 39 = .ok (.bipush 12, 2) := by decide +kernel
theorem dX5_tailor_41 : decode cX5_tailor 41 = .ok (.if_icmp .gt 59, 3) := by decide +kernel
theorem dX5_tailor_44 : decode cX5_tailor 44 = .ok (.iload_n 3, 1) := by decide +kernel
theorem dX5_tailor_45 : decode cX5_tailor 45 = .ok (.iload_n 2, 1) := by decide +kernel
theorem dX5_tailor_46 : decode cX5_tailor 46 = .ok (.imul, 1) := by decide +kernel
theorem dX5_tailor_47 : decode cX5_tailor 47 = .ok (.iload_n 1, 1) := by decide +kernel
theorem dX5_tailor_48 : decode cX5_tailor 48 = .ok (.if_icmp .lt 6, 3) := by decide +kernel
theorem dX5_tailor_51 : decode cX5_tailor 51 = .ok (.iload 5, 2) := by decide +kernel
theorem dX5_tailor_53 : decode cX5_tailor 53 = .ok (.ireturn, 1) := by decide +kernel
theorem dX5_tailor_54 : decode cX5_tailor 54 = .ok (.aload_n 0, 1) := by decide +kernel
theorem dX5_tailor_55 : decode cX5_tailor 55 = .ok (.getfield 12, 3) := by decide +kernel
theorem dX5_tailor_58 : decode cX5_tailor 58 = .ok (.iload 4, 2) := by decide +kernel
theorem dX5_tailor_60 : decode cX5_tailor 60 = .ok (.invokevirtual 176, 3) := by decide +kernel
theorem dX5_tailor_63 : decode cX5_tailor 63 = .ok (.istore 6, 2) := by decide +kernel
theorem dX5_tailor_65 : decode cX5_tailor 65 = .ok (.iload 6, 2) := by decide +kernel
theorem dX5_tailor_67 : decode cX5_tailor 67 = .ok (.iconst (-1), 1) := by decide +kernel
theorem dX5_tailor_68 : decode cX5_tailor 68 = .ok (.if_icmp .ne 5, 3) := by decide +kernel
theorem dX5_tailor_71 : decode cX5_tailor 71 = .ok (.iconst (-1), 1) := by decide +kernel
theorem dX5_tailor_72 : decode cX5_tailor 72 = .ok (.ireturn, 1) := by decide +kernel
theorem dX5_tailor_73 : decode cX5_tailor 73 = .ok (.iload_n 3, 1) := by decide +kernel
theorem dX5_tailor_74 : decode cX5_tailor 74 = .ok (.aload_n 0, 1) := by decide +kernel
theorem dX5_tailor_75 : decode cX5_tailor 75 = .ok (.getfield 12, 3) := by decide +kernel
theorem dX5_tailor_78 : decode cX5_tailor 78 = .ok (.iload 6, 2) := by decide +kernel
theorem dX5_tailor_80 : decode cX5_tailor 80 = .ok (.invokevirtual 179, 3) := by decide +kernel
theorem dX5_tailor_83 : decode cX5_tailor 83 = .ok (.iadd, 1) := by decide +kernel
theorem dX5_tailor_84 : decode cX5_tailor 84 = .ok (.istore_n 3, 1) := by decide +kernel
theorem dX5_tailor_85 : decode cX5_tailor 85 = .ok (.iload 4, 2) := by decide +kernel
theorem dX5_tailor_87 : decode cX5_tailor 87 = .ok (.iconst 1, 1) := by decide +kernel
theorem dX5_tailor_88 : decode cX5_tailor 88 = .ok (.iload 6, 2) := by decide +kernel
theorem dX5_tailor_90 : decode cX5_tailor 90 = .ok (.ishl, 1) := by decide +kernel
theorem dX5_tailor_91 : decode cX5_tailor 91 = .ok (.ior, 1) := by decide +kernel
theorem dX5_tailor_92 : decode cX5_tailor 92 = .ok (.istore 4, 2) := by decide +kernel
theorem dX5_tailor_94 : decode cX5_tailor 94 = .ok (.iinc 5 1, 3) := by decide +kernel
theorem dX5_tailor_97 : decode cX5_tailor 97 = .ok (.goto (-60), 3) := by decide +kernel
theorem dX5_tailor_100 : decode cX5_tailor 100 = .ok (.iconst (-1), 1) := by decide +kernel
theorem dX5_tailor_101 : decode cX5_tailor 101 = .ok (.ireturn, 1) := by decide +kernel
set_option maxRecDepth 20000 in
theorem ggX5_part_X5_noted : GoodIn wsX5_part wsX5_noted := goodIn_r _ [6, 7, 8, 9, 10, 11, 12, 13, 14, 15, 16, 17, 18] (by decide +kernel) (by decide +kernel)
set_option maxRecDepth 20000 in
theorem gX5_part_X5_noted : GoodIn wsX5_part (wsV RX5 48 RX5 yX5_noted wsX5_noted) := goodIn_app (goodIn_of _ (by decide +kernel)) ggX5_part_X5_noted
theorem dX5_part_0 : decode cX5_part 0 = .ok (.iload_n 1, 1) := by decide +kernel
theorem dX5_part_1 : decode cX5_part 1 = .ok (.lookupswitch 43 #[(0, 27), (1, 35)], 27) := by decide +kernel
theorem dX5_part_28 : decode cX5_part 28 = .ok (.aload_n 0, 1) := by decide +kernel
theorem dX5_part_29 : decode cX5_part 29 = .ok (.getfield 40, 3) := by decide +kernel
theorem dX5_part_32 : decode cX5_part 32 = .ok (.getfield 182, 3) := by decide +kernel
theorem dX5_part_35 : decode cX5_part 35 = .ok (.lreturn, 1) := by decide +kernel
theorem dX5_part_36 : decode cX5_part 36 = .ok (.aload_n 0, 1) := by decide +kernel
theorem dX5_part_37 : decode cX5_part 37 = .ok (.getfield 40, 3) := by decide +kernel
theorem dX5_part_40 : decode cX5_part 40 = .ok (.getfield 186, 3) := by decide +kernel
theorem dX5_part_43 : decode cX5_part 43 = .ok (.lreturn, 1) := by decide +kernel
theorem dX5_part_44 : decode cX5_part 44 = .ok (.aload_n 0, 1) := by decide +kernel
theorem dX5_part_45 : decode cX5_part 45 = .ok (.bipush (-2), 2) := by decide +kernel
theorem dX5_part_47 : decode cX5_part 47 = .ok (.invokevirtual 48, 3) := by decide +kernel
theorem dX5_part_50 : decode cX5_part 50 = .ok (.i2l, 1) := by decide +kernel
theorem dX5_part_51 : decode cX5_part 51 = .ok (.lreturn, 1) := by decide +kernel
set_option maxRecDepth 20000 in
theorem ggX5_image_X5_noted : GoodIn wsX5_image wsX5_noted := goodIn_r _ [10, 11, 12, 13, 46, 47, 48, 49, 50, 51, 52, 53, 54] (by decide +kernel) (by decide +kernel)
set_option maxRecDepth 20000 in
theorem gX5_image_X5_noted : GoodIn wsX5_image (wsV RX5 48 RX5 yX5_noted wsX5_noted) := goodIn_app (goodIn_of _ (by decide +kernel)) ggX5_image_X5_noted
set_option maxRecDepth 20000 in
theorem ggX5_image_X4_init : GoodIn wsX5_image wsX4_init := goodIn_r _ [16, 17, 18, 19, 20, 21, 22, 23, 24, 25, 26, 27, 28, 29, 30, 31, 4, 32, 33, 34, 35, 36, 37, 38, 55, 56, 57, 58, 59, 60, 61, 62, 63, 64, 65, 66, 67, 68] (by decide +kernel) (by decide +kernel)
set_option maxRecDepth 20000 in
theorem gX5_image_X4_init : GoodIn wsX5_image (wsX4_init) := ggX5_image_X4_init
set_option maxRecDepth 20000 in
theorem ggX5_image_X4_copyFrom : GoodIn wsX5_image wsX4_copyFrom := goodIn_r _ [42, 21, 22, 23, 24, 33, 25, 34, 26, 35, 36, 37, 27, 28, 38, 43, 44, 4, 45, 55, 56, 57, 58, 59, 60, 61, 62, 63, 64, 65, 66, 67, 68] (by decide +kernel) (by decide +kernel)
set_option maxRecDepth 20000 in
theorem gX5_image_X4_copyFrom : GoodIn wsX5_image (wsV RX5 84 RX4 yX4_copyFrom wsX4_copyFrom) := goodIn_app (goodIn_of _ (by decide +kernel)) ggX5_image_X4_copyFrom
theorem dX5_image_0 : decode cX5_image 0 = .ok (.iload_n 1, 1) := by decide +kernel
theorem dX5_image_1 : decode cX5_image 1 = .ok (.ifCond .lt 8, 3) := by decide +kernel
theorem dX5_image_4 : decode cX5_image 4 = .ok (.iload_n 1, 1) := by decide +kernel
theorem dX5_image_5 : decode cX5_image 5 = .ok (.iconst 2, 1) := by decide +kernel
theorem dX5_image_6 : decode cX5_image 6 = .ok (.if_icmp .lt 10, 3) := by decide +kernel
theorem dX5_image_9 : decode cX5_image 9 = .ok (.aload_n 0, 1) := by decide +kernel
theorem dX5_image_10 : decode cX5_image 10 = .ok (.bipush (-2), 2) := by decide +kernel
theorem dX5_image_12 : decode cX5_image 12 = .ok (.invokevirtual 48, 3) := by decide +kernel
theorem dX5_image_15 : decode cX5_image 15 = .ok (.ireturn, 1) := by decide +kernel
theorem dX5_image_16 : decode cX5_image 16 = .ok (.aload_n 0, 1) := by decide +kernel
theorem dX5_image_17 : decode cX5_image 17 = .ok (.getfield 19, 3) := by decide +kernel
theorem dX5_image_20 : decode cX5_image 20 = .ok (.iload_n 1, 1) := by decide +kernel
theorem dX5_image_21 : decode cX5_image 21 = .ok (.aaload, 1) := by decide +kernel
theorem dX5_image_22 : decode cX5_image 22 = .ok (.astore_n 2, 1) := by decide +kernel
theorem dX5_image_23 : decode cX5_image 23 = .ok (.aload_n 2, 1) := by decide +kernel
theorem dX5_image_24 : decode cX5_image 24 = .ok (.ifnonnull 18, 3) := by decide +kernel
theorem dX5_image_27 : decode cX5_image 27 = .ok (.new 9, 3) := by decide +kernel
theorem dX5_image_30 : decode cX5_image 30 = .ok (.dup, 1) := by decide +kernel
theorem dX5_image_31 : decode cX5_image 31 = .ok (.invokespecial 11, 3) := by decide +kernel
theorem dX5_image_34 : decode cX5_image 34 = .ok (.astore_n 2, 1) := by decide +kernel
theorem dX5_image_35 : decode cX5_image 35 = .ok (.aload_n 0, 1) := by decide +kernel
theorem dX5_image_36 : decode cX5_image 36 = .ok (.getfield 19, 3) := by decide +kernel
theorem dX5_image_39 : decode cX5_image 39 = .ok (.iload_n 1, 1) := by decide +kernel
theorem dX5_image_40 : decode cX5_image 40 = .ok (.aload_n 2, 1) := by decide +kernel
theorem dX5_image_41 : decode cX5_image 41 = .ok (.aastore, 1) := by decide +kernel
theorem dX5_image_42 : decode cX5_image 42 = .ok (.aload_n 2, 1) := by decide +kernel
theorem dX5_image_43 : decode cX5_image 43 = .ok (.aload_n 0, 1) := by decide +kernel
theorem dX5_image_44 : decode cX5_image 44 = .ok (.getfield 12, 3) := by decide +kernel
theorem dX5_image_47 : decode cX5_image 47 = .ok (.invokevirtual 84, 3) := by decide +kernel
theorem dX5_image_50 : decode cX5_image 50 = .ok (.iconst 1, 1) := by decide +kernel
theorem dX5_image_51 : decode cX5_image 51 = .ok (.ireturn, 1) := by decide +kernel
set_option maxRecDepth 20000 in
theorem ggX5_from_X5_noted : GoodIn wsX5_from wsX5_noted := goodIn_r _ [7, 8, 9, 10, 33, 34, 35, 36, 37, 38, 39, 40, 41] (by decide +kernel) (by decide +kernel)
set_option maxRecDepth 20000 in
theorem gX5_from_X5_noted : GoodIn wsX5_from (wsV RX5 48 RX5 yX5_noted wsX5_noted) := goodIn_app (goodIn_of _ (by decide +kernel)) ggX5_from_X5_noted
set_option maxRecDepth 20000 in
theorem ggX5_from_X4_copyFrom : GoodIn wsX5_from wsX4_copyFrom := goodIn_r _ [15, 16, 17, 18, 19, 20, 21, 22, 23, 24, 25, 26, 27, 28, 29, 30, 31, 14, 32, 42, 43, 44, 45, 46, 47, 48, 49, 50, 51, 52, 53, 54, 55] (by decide +kernel) (by decide +kernel)
set_option maxRecDepth 20000 in
theorem gX5_from_X4_copyFrom : GoodIn wsX5_from (wsV RX5 84 RX4 yX4_copyFrom wsX4_copyFrom) := goodIn_app (goodIn_of _ (by decide +kernel)) ggX5_from_X4_copyFrom
theorem dX5_from_0 : decode cX5_from 0 = .ok (.iload_n 1, 1) := by decide +kernel
theorem dX5_from_1 : decode cX5_from 1 = .ok (.ifCond .lt 8, 3) := by decide +kernel
theorem dX5_from_4 : decode cX5_from 4 = .ok (.iload_n 1, 1) := by decide +kernel
theorem dX5_from_5 : decode cX5_from 5 = .ok (.iconst 2, 1) := by decide +kernel
theorem dX5_from_6 : decode cX5_from 6 = .ok (.if_icmp .lt 10, 3) := by decide +kernel
theorem dX5_from_9 : decode cX5_from 9 = .ok (.aload_n 0, 1) := by decide +kernel
theorem dX5_from_10 : decode cX5_from 10 = .ok (.bipush (-2), 2) := by decide +kernel
theorem dX5_from_12 : decode cX5_from 12 = .ok (.invokevirtual 48, 3) := by decide +kernel
theorem dX5_from_15 : decode cX5_from 15 = .ok (.ireturn, 1) := by decide +kernel
theorem dX5_from_16 : decode cX5_from 16 = .ok (.aload_n 0, 1) := by decide +kernel
theorem dX5_from_17 : decode cX5_from 17 = .ok (.getfield 19, 3) := by decide +kernel
theorem dX5_from_20 : decode cX5_from 20 = .ok (.iload_n 1, 1) := by decide +kernel
theorem dX5_from_21 : decode cX5_from 21 = .ok (.aaload, 1) := by decide +kernel
theorem dX5_from_22 : decode cX5_from 22 = .ok (.astore_n 2, 1) := by decide +kernel
theorem dX5_from_23 : decode cX5_from 23 = .ok (.aload_n 2, 1) := by decide +kernel
theorem dX5_from_24 : decode cX5_from 24 = .ok (.ifnonnull 10, 3) := by decide +kernel
theorem dX5_from_27 : decode cX5_from 27 = .ok (.aload_n 0, 1) := by decide +kernel
theorem dX5_from_28 : decode cX5_from 28 = .ok (.bipush (-3), 2) := by decide +kernel
theorem dX5_from_30 : decode cX5_from 30 = .ok (.invokevirtual 48, 3) := by decide +kernel
theorem dX5_from_33 : decode cX5_from 33 = .ok (.ireturn, 1) := by decide +kernel
theorem dX5_from_34 : decode cX5_from 34 = .ok (.aload_n 0, 1) := by decide +kernel
theorem dX5_from_35 : decode cX5_from 35 = .ok (.getfield 12, 3) := by decide +kernel
theorem dX5_from_38 : decode cX5_from 38 = .ok (.aload_n 2, 1) := by decide +kernel
theorem dX5_from_39 : decode cX5_from 39 = .ok (.invokevirtual 84, 3) := by decide +kernel
theorem dX5_from_42 : decode cX5_from 42 = .ok (.iconst 1, 1) := by decide +kernel
theorem dX5_from_43 : decode cX5_from 43 = .ok (.ireturn, 1) := by decide +kernel
set_option maxRecDepth 20000 in
theorem ggX5_status_X5_noted : GoodIn wsX5_status wsX5_noted := goodIn_r _ [8, 1, 2, 3, 9, 10, 11, 12, 13, 14, 15, 16, 17] (by decide +kernel) (by decide +kernel)
set_option maxRecDepth 20000 in
theorem gX5_status_X5_noted : GoodIn wsX5_status (wsV RX5 48 RX5 yX5_noted wsX5_noted) := goodIn_app (goodIn_of _ (by decide +kernel)) ggX5_status_X5_noted
theorem dX5_status_0 : decode cX5_status 0 = .ok (.iload_n 1, 1) := by decide +kernel
theorem dX5_status_1 : decode cX5_status 1 = .ok (.tableswitch 42 0 2 #[27, 32, 37], 27) := by decide +kernel
theorem dX5_status_28 : decode cX5_status 28 = .ok (.aload_n 0, 1) := by decide +kernel
theorem dX5_status_29 : decode cX5_status 29 = .ok (.getfield 189, 3) := by decide +kernel
theorem dX5_status_32 : decode cX5_status 32 = .ok (.ireturn, 1) := by decide +kernel
theorem dX5_status_33 : decode cX5_status 33 = .ok (.aload_n 0, 1) := by decide +kernel
theorem dX5_status_34 : decode cX5_status 34 = .ok (.getfield 192, 3) := by decide +kernel
theorem dX5_status_37 : decode cX5_status 37 = .ok (.ireturn, 1) := by decide +kernel
theorem dX5_status_38 : decode cX5_status 38 = .ok (.aload_n 0, 1) := by decide +kernel
theorem dX5_status_39 : decode cX5_status 39 = .ok (.getfield 195, 3) := by decide +kernel
theorem dX5_status_42 : decode cX5_status 42 = .ok (.ireturn, 1) := by decide +kernel
theorem dX5_status_43 : decode cX5_status 43 = .ok (.aload_n 0, 1) := by decide +kernel
theorem dX5_status_44 : decode cX5_status 44 = .ok (.bipush (-2), 2) := by decide +kernel
theorem dX5_status_46 : decode cX5_status 46 = .ok (.invokevirtual 48, 3) := by decide +kernel
theorem dX5_status_49 : decode cX5_status 49 = .ok (.pop, 1) := by decide +kernel
theorem dX5_status_50 : decode cX5_status 50 = .ok (.iconst (-1), 1) := by decide +kernel
theorem dX5_status_51 : decode cX5_status 51 = .ok (.ireturn, 1) := by decide +kernel
set_option maxRecDepth 20000 in
theorem ggX5_count_X4_groups : GoodIn wsX5_count wsX4_groups := goodIn_r _ [7, 8, 9, 10, 11, 6, 12, 13, 31, 32, 33, 34, 35, 36, 37, 38, 39, 40, 41, 42, 43, 44] (by decide +kernel) (by decide +kernel)
set_option maxRecDepth 20000 in
theorem gX5_count_X4_groups : GoodIn wsX5_count (wsV RX5 91 RX4 yX4_groups wsX4_groups) := goodIn_app (goodIn_of _ (by decide +kernel)) ggX5_count_X4_groups
set_option maxRecDepth 20000 in
theorem ggX5_count_X5_noted : GoodIn wsX5_count wsX5_noted := goodIn_r _ [18, 19, 20, 21, 22, 23, 24, 25, 26, 27, 28, 29, 30] (by decide +kernel) (by decide +kernel)
set_option maxRecDepth 20000 in
theorem gX5_count_X5_noted : GoodIn wsX5_count (wsV RX5 48 RX5 yX5_noted wsX5_noted) := goodIn_app (goodIn_of _ (by decide +kernel)) ggX5_count_X5_noted
theorem dX5_count_0 : decode cX5_count 0 = .ok (.iload_n 1, 1) := by decide +kernel
theorem dX5_count_1 : decode cX5_count 1 = .ok (.tableswitch 63 0 3 #[31, 39, 47, 55], 31) := by decide +kernel
theorem dX5_count_32 : decode cX5_count 32 = .ok (.aload_n 0, 1) := by decide +kernel
theorem dX5_count_33 : decode cX5_count 33 = .ok (.getfield 12, 3) := by decide +kernel
theorem dX5_count_36 : decode cX5_count 36 = .ok (.getfield 198, 3) := by decide +kernel
theorem dX5_count_39 : decode cX5_count 39 = .ok (.ireturn, 1) := by decide +kernel
theorem dX5_count_40 : decode cX5_count 40 = .ok (.aload_n 0, 1) := by decide +kernel
theorem dX5_count_41 : decode cX5_count 41 = .ok (.getfield 12, 3) := by decide +kernel
theorem dX5_count_44 : decode cX5_count 44 = .ok (.getfield 201, 3) := by decide +kernel
theorem dX5_count_47 : decode cX5_count 47 = .ok (.ireturn, 1) := by decide +kernel
theorem dX5_count_48 : decode cX5_count 48 = .ok (.aload_n 0, 1) := by decide +kernel
theorem dX5_count_49 : decode cX5_count 49 = .ok (.getfield 12, 3) := by decide +kernel
theorem dX5_count_52 : decode cX5_count 52 = .ok (.invokevirtual 91, 3) := by decide +kernel
theorem dX5_count_55 : decode cX5_count 55 = .ok (.ireturn, 1) := by decide +kernel
theorem dX5_count_56 : decode cX5_count 56 = .ok (.aload_n 0, 1) := by decide +kernel
