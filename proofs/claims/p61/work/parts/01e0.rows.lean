set_option maxRecDepth 20000 in
theorem ggL_put_L_flush : GoodIn wsL_put wsL_flush := goodIn_r _ [4, 5, 6, 7, 8, 9, 10, 11, 12, 13, 14, 15, 16, 17, 18, 19, 20, 21, 22, 23, 24, 25, 26, 27, 28, 29, 30, 31, 32, 33, 34, 35] (by decide +kernel) (by decide +kernel)
set_option maxRecDepth 20000 in
theorem gL_put_L_flush : GoodIn wsL_put (va_wsS RL 7 yL_flush wsL_flush) := goodIn_app (goodIn_of _ (by decide +kernel)) ggL_put_L_flush
theorem dL_put_0 : decode cL_put 0 = .ok (.aload_n 1, 1) := by decide +kernel
theorem dL_put_1 : decode cL_put 1 = .ok (.iconst 5, 1) := by decide +kernel
theorem dL_put_2 : decode cL_put 2 = .ok (.iaload, 1) := by decide +kernel
theorem dL_put_3 : decode cL_put 3 = .ok (.istore_n 3, 1) := by decide +kernel
theorem dL_put_4 : decode cL_put 4 = .ok (.aload_n 1, 1) := by decide +kernel
theorem dL_put_5 : decode cL_put 5 = .ok (.iload_n 3, 1) := by decide +kernel
theorem dL_put_6 : decode cL_put 6 = .ok (.iconst 4, 1) := by decide +kernel
theorem dL_put_7 : decode cL_put 7 = .ok (.idiv, 1) := by decide +kernel
theorem dL_put_8 : decode cL_put 8 = .ok (.aload_n 1, 1) := by decide +kernel
theorem dL_put_9 : decode cL_put 9 = .ok (.iload_n 3, 1) := by decide +kernel
theorem dL_put_10 : decode cL_put 10 = .ok (.iconst 4, 1) := by decide +kernel
theorem dL_put_11 : decode cL_put 11 = .ok (.idiv, 1) := by decide +kernel
theorem dL_put_12 : decode cL_put 12 = .ok (.iaload, 1) := by decide +kernel
theorem dL_put_13 : decode cL_put 13 = .ok (.bipush 8, 2) := by decide +kernel
theorem dL_put_15 : decode cL_put 15 = .ok (.ishl, 1) := by decide +kernel
theorem dL_put_16 : decode cL_put 16 = .ok (.iload_n 2, 1) := by decide +kernel
theorem dL_put_17 : decode cL_put 17 = .ok (.ior, 1) := by decide +kernel
theorem dL_put_18 : decode cL_put 18 = .ok (.iastore, 1) := by decide +kernel
theorem dL_put_19 : decode cL_put 19 = .ok (.aload_n 1, 1) := by decide +kernel
theorem dL_put_20 : decode cL_put 20 = .ok (.iconst 5, 1) := by decide +kernel
theorem dL_put_21 : decode cL_put 21 = .ok (.dup2, 1) := by decide +kernel
theorem dL_put_22 : decode cL_put 22 = .ok (.iaload, 1) := by decide +kernel
theorem dL_put_23 : decode cL_put 23 = .ok (.iconst 1, 1) := by decide +kernel
theorem dL_put_24 : decode cL_put 24 = .ok (.iadd, 1) := by decide +kernel
theorem dL_put_25 : decode cL_put 25 = .ok (.iastore, 1) := by decide +kernel
theorem dL_put_26 : decode cL_put 26 = .ok (.aload_n 1, 1) := by decide +kernel
theorem dL_put_27 : decode cL_put 27 = .ok (.bipush 6, 2) := by decide +kernel
theorem dL_put_29 : decode cL_put 29 = .ok (.dup2, 1) := by decide +kernel
theorem dL_put_30 : decode cL_put 30 = .ok (.iaload, 1) := by decide +kernel
theorem dL_put_31 : decode cL_put 31 = .ok (.iconst 1, 1) := by decide +kernel
theorem dL_put_32 : decode cL_put 32 = .ok (.iadd, 1) := by decide +kernel
theorem dL_put_33 : decode cL_put 33 = .ok (.iastore, 1) := by decide +kernel
theorem dL_put_34 : decode cL_put 34 = .ok (.aload_n 1, 1) := by decide +kernel
theorem dL_put_35 : decode cL_put 35 = .ok (.iconst 5, 1) := by decide +kernel
theorem dL_put_36 : decode cL_put 36 = .ok (.iaload, 1) := by decide +kernel
theorem dL_put_37 : decode cL_put 37 = .ok (.bipush 20, 2) := by decide +kernel
theorem dL_put_39 : decode cL_put 39 = .ok (.if_icmp .ne 8, 3) := by decide +kernel
theorem dL_put_42 : decode cL_put 42 = .ok (.aload_n 0, 1) := by decide +kernel
theorem dL_put_43 : decode cL_put 43 = .ok (.aload_n 1, 1) := by decide +kernel
theorem dL_put_44 : decode cL_put 44 = .ok (.invokestatic 7, 3) := by decide +kernel
theorem dL_put_47 : decode cL_put 47 = .ok (.return_, 1) := by decide +kernel
set_option maxRecDepth 20000 in
theorem ggL_flush_X11_feed : GoodIn wsL_flush wsX11_feed := goodIn_r _ [5, 6, 7, 8, 9, 10, 11, 12, 13, 14, 15, 16, 17, 18, 19, 20, 21, 22, 23, 24, 25, 26, 27, 28, 29, 30, 31] (by decide +kernel) (by decide +kernel)
set_option maxRecDepth 20000 in
theorem gL_flush_X11_feed : GoodIn wsL_flush (wsV RL 13 RX11 yX11_feed wsX11_feed) := goodIn_app (goodIn_of _ (by decide +kernel)) ggL_flush_X11_feed
theorem dL_flush_0 : decode cL_flush 0 = .ok (.aload_n 0, 1) := by decide +kernel
theorem dL_flush_1 : decode cL_flush 1 = .ok (.aload_n 1, 1) := by decide +kernel
theorem dL_flush_2 : decode cL_flush 2 = .ok (.iconst 0, 1) := by decide +kernel
theorem dL_flush_3 : decode cL_flush 3 = .ok (.iaload, 1) := by decide +kernel
theorem dL_flush_4 : decode cL_flush 4 = .ok (.aload_n 1, 1) := by decide +kernel
theorem dL_flush_5 : decode cL_flush 5 = .ok (.iconst 1, 1) := by decide +kernel
theorem dL_flush_6 : decode cL_flush 6 = .ok (.iaload, 1) := by decide +kernel
theorem dL_flush_7 : decode cL_flush 7 = .ok (.aload_n 1, 1) := by decide +kernel
theorem dL_flush_8 : decode cL_flush 8 = .ok (.iconst 2, 1) := by decide +kernel
theorem dL_flush_9 : decode cL_flush 9 = .ok (.iaload, 1) := by decide +kernel
theorem dL_flush_10 : decode cL_flush 10 = .ok (.aload_n 1, 1) := by decide +kernel
theorem dL_flush_11 : decode cL_flush 11 = .ok (.iconst 3, 1) := by decide +kernel
theorem dL_flush_12 : decode cL_flush 12 = .ok (.iaload, 1) := by decide +kernel
theorem dL_flush_13 : decode cL_flush 13 = .ok (.aload_n 1, 1) := by decide +kernel
theorem dL_flush_14 : decode cL_flush 14 = .ok (.iconst 4, 1) := by decide +kernel
theorem dL_flush_15 : decode cL_flush 15 = .ok (.iaload, 1) := by decide +kernel
theorem dL_flush_16 : decode cL_flush 16 = .ok (.invokevirtual 13, 3) := by decide +kernel
theorem dL_flush_19 : decode cL_flush 19 = .ok (.istore_n 2, 1) := by decide +kernel
theorem dL_flush_20 : decode cL_flush 20 = .ok (.aload_n 1, 1) := by decide +kernel
theorem dL_flush_21 : decode cL_flush 21 = .ok (.iconst 5, 1) := by decide +kernel
theorem dL_flush_22 : decode cL_flush 22 = .ok (.iconst 0, 1) := by decide +kernel
theorem dL_flush_23 : decode cL_flush 23 = .ok (.iastore, 1) := by decide +kernel
theorem dL_flush_24 : decode cL_flush 24 = .ok (.return_, 1) := by decide +kernel
set_option maxRecDepth 20000 in
theorem ggL_say_L_put : GoodIn wsL_say wsL_put := goodIn_r _ [5, 6, 7, 4, 8, 9, 10, 11, 12, 13, 14, 15, 16, 17, 18, 19, 20, 21, 22, 23, 24, 25, 26, 27, 28, 29, 30, 31, 32, 33, 34, 35, 36, 37, 38, 39] (by decide +kernel) (by decide +kernel)
set_option maxRecDepth 20000 in
theorem gL_say_L_put : GoodIn wsL_say (va_wsS RL 21 yL_put wsL_put) := goodIn_app (goodIn_of _ (by decide +kernel)) ggL_say_L_put
theorem dL_say_0 : decode cL_say 0 = .ok (.bipush 56, 2) := by decide +kernel
theorem dL_say_2 : decode cL_say 2 = .ok (.istore 4, 2) := by decide +kernel
theorem dL_say_4 : decode cL_say 4 = .ok (.iload 4, 2) := by decide +kernel
theorem dL_say_6 : decode cL_say 6 = .ok (.ifCond .lt 36, 3) := by decide +kernel
theorem dL_say_9 : decode cL_say 9 = .ok (.lload_n 2, 1) := by decide +kernel
theorem dL_say_10 : decode cL_say 10 = .ok (.iload 4, 2) := by decide +kernel
theorem dL_say_12 : decode cL_say 12 = .ok (.lshr, 1) := by decide +kernel
theorem dL_say_13 : decode cL_say 13 = .ok (.ldc2_w 19, 3) := by decide +kernel
theorem dL_say_16 : decode cL_say 16 = .ok (.land, 1) := by decide +kernel
theorem dL_say_17 : decode cL_say 17 = .ok (.lconst 0, 1) := by decide +kernel
theorem dL_say_18 : decode cL_say 18 = .ok (.lcmp, 1) := by decide +kernel
theorem dL_say_19 : decode cL_say 19 = .ok (.ifCond .eq 17, 3) := by decide +kernel
theorem dL_say_22 : decode cL_say 22 = .ok (.aload_n 0, 1) := by decide +kernel
theorem dL_say_23 : decode cL_say 23 = .ok (.aload_n 1, 1) := by decide +kernel
theorem dL_say_24 : decode cL_say 24 = .ok (.lload_n 2, 1) := by decide +kernel
theorem dL_say_25 : decode cL_say 25 = .ok (.iload 4, 2) := by decide +kernel
theorem dL_say_27 : decode cL_say 27 = .ok (.lshr, 1) := by decide +kernel
theorem dL_say_28 : decode cL_say 28 = .ok (.ldc2_w 19, 3) := by decide +kernel
theorem dL_say_31 : decode cL_say 31 = .ok (.land, 1) := by decide +kernel
theorem dL_say_32 : decode cL_say 32 = .ok (.l2i, 1) := by decide +kernel
theorem dL_say_33 : decode cL_say 33 = .ok (.invokestatic 21, 3) := by decide +kernel
theorem dL_say_36 : decode cL_say 36 = .ok (.iinc 4 (-8), 3) := by decide +kernel
theorem dL_say_39 : decode cL_say 39 = .ok (.goto (-35), 3) := by decide +kernel
theorem dL_say_42 : decode cL_say 42 = .ok (.return_, 1) := by decide +kernel
set_option maxRecDepth 20000 in
theorem ggL_said_L_put : GoodIn wsL_said wsL_put := goodIn_r _ [4, 5, 6, 3, 7, 8, 9, 10, 11, 12, 13, 14, 15, 16, 17, 18, 19, 20, 21, 22, 23, 24, 25, 26, 27, 28, 29, 30, 31, 32, 33, 34, 35, 36, 37, 38] (by decide +kernel) (by decide +kernel)
set_option maxRecDepth 20000 in
theorem gL_said_L_put : GoodIn wsL_said (va_wsS RL 21 yL_put wsL_put) := goodIn_app (goodIn_of _ (by decide +kernel)) ggL_said_L_put
theorem dL_said_0 : decode cL_said 0 = .ok (.aload_n 1, 1) := by decide +kernel
theorem dL_said_1 : decode cL_said 1 = .ok (.bipush 6, 2) := by decide +kernel
theorem dL_said_3 : decode cL_said 3 = .ok (.iaload, 1) := by decide +kernel
theorem dL_said_4 : decode cL_said 4 = .ok (.istore_n 2, 1) := by decide +kernel
theorem dL_said_5 : decode cL_said 5 = .ok (.aload_n 1, 1) := by decide +kernel
theorem dL_said_6 : decode cL_said 6 = .ok (.iconst 5, 1) := by decide +kernel
theorem dL_said_7 : decode cL_said 7 = .ok (.iaload, 1) := by decide +kernel
theorem dL_said_8 : decode cL_said 8 = .ok (.ifCond .le 13, 3) := by decide +kernel
theorem dL_said_11 : decode cL_said 11 = .ok (.aload_n 0, 1) := by decide +kernel
theorem dL_said_12 : decode cL_said 12 = .ok (.aload_n 1, 1) := by decide +kernel
theorem dL_said_13 : decode cL_said 13 = .ok (.bipush 32, 2) := by decide +kernel
theorem dL_said_15 : decode cL_said 15 = .ok (.invokestatic 21, 3) := by decide +kernel
theorem dL_said_18 : decode cL_said 18 = .ok (.goto (-13), 3) := by decide +kernel
theorem dL_said_21 : decode cL_said 21 = .ok (.aload_n 1, 1) := by decide +kernel
theorem dL_said_22 : decode cL_said 22 = .ok (.bipush 6, 2) := by decide +kernel
theorem dL_said_24 : decode cL_said 24 = .ok (.iconst 0, 1) := by decide +kernel
theorem dL_said_25 : decode cL_said 25 = .ok (.iastore, 1) := by decide +kernel
theorem dL_said_26 : decode cL_said 26 = .ok (.iload_n 2, 1) := by decide +kernel
theorem dL_said_27 : decode cL_said 27 = .ok (.ireturn, 1) := by decide +kernel
set_option maxRecDepth 20000 in
theorem ggL_number_L_put : GoodIn wsL_number wsL_put := goodIn_r _ [4, 5, 6, 3, 7, 8, 9, 10, 11, 12, 13, 14, 15, 16, 17, 18, 19, 20, 21, 22, 23, 24, 25, 26, 27, 28, 29, 30, 31, 32, 33, 34, 35, 36, 37, 38] (by decide +kernel) (by decide +kernel)
set_option maxRecDepth 20000 in
theorem gL_number_L_put : GoodIn wsL_number (va_wsS RL 21 yL_put wsL_put) := goodIn_app (goodIn_of _ (by decide +kernel)) ggL_number_L_put
theorem dL_number_0 : decode cL_number 0 = .ok (.iload_n 2, 1) := by decide +kernel
theorem dL_number_1 : decode cL_number 1 = .ok (.ifCond .ge 10, 3) := by decide +kernel
theorem dL_number_4 : decode cL_number 4 = .ok (.aload_n 0, 1) := by decide +kernel
theorem dL_number_5 : decode cL_number 5 = .ok (.aload_n 1, 1) := by decide +kernel
theorem dL_number_6 : decode cL_number 6 = .ok (.bipush 45, 2) := by decide +kernel
theorem dL_number_8 : decode cL_number 8 = .ok (.invokestatic 21, 3) := by decide +kernel
theorem dL_number_11 : decode cL_number 11 = .ok (.iload_n 2, 1) := by decide +kernel
theorem dL_number_12 : decode cL_number 12 = .ok (.ifCond .ge 8, 3) := by decide +kernel
theorem dL_number_15 : decode cL_number 15 = .ok (.iload_n 2, 1) := by decide +kernel
theorem dL_number_16 : decode cL_number 16 = .ok (.ineg, 1) := by decide +kernel
theorem dL_number_17 : decode cL_number 17 = .ok (.goto 4, 3) := by decide +kernel
theorem dL_number_20 : decode cL_number 20 = .ok (.iload_n 2, 1) := by decide +kernel
theorem dL_number_21 : decode cL_number 21 = .ok (.istore_n 3, 1) := by decide +kernel
theorem dL_number_22 : decode cL_number 22 = .ok (.sipush 1000, 3) := by decide +kernel
theorem dL_number_25 : decode cL_number 25 = .ok (.istore 4, 2) := by decide +kernel
theorem dL_number_27 : decode cL_number 27 = .ok (.iload 4, 2) := by decide +kernel
theorem dL_number_29 : decode cL_number 29 = .ok (.iconst 1, 1) := by decide +kernel
theorem dL_number_30 : decode cL_number 30 = .ok (.if_icmp .le 19, 3) := by decide +kernel
theorem dL_number_33 : decode cL_number 33 = .ok (.iload_n 3, 1) := by decide +kernel
theorem dL_number_34 : decode cL_number 34 = .ok (.iload 4, 2) := by decide +kernel
theorem dL_number_36 : decode cL_number 36 = .ok (.if_icmp .ge 13, 3) := by decide +kernel
theorem dL_number_39 : decode cL_number 39 = .ok (.iload 4, 2) := by decide +kernel
theorem dL_number_41 : decode cL_number 41 = .ok (.bipush 10, 2) := by decide +kernel
theorem dL_number_43 : decode cL_number 43 = .ok (.idiv, 1) := by decide +kernel
theorem dL_number_44 : decode cL_number 44 = .ok (.istore 4, 2) := by decide +kernel
theorem dL_number_46 : decode cL_number 46 = .ok (.goto (-19), 3) := by decide +kernel
theorem dL_number_49 : decode cL_number 49 = .ok (.iload 4, 2) := by decide +kernel
theorem dL_number_51 : decode cL_number 51 = .ok (.ifCond .le 28, 3) := by decide +kernel
theorem dL_number_54 : decode cL_number 54 = .ok (.aload_n 0, 1) := by decide +kernel
theorem dL_number_55 : decode cL_number 55 = .ok (.aload_n 1, 1) := by decide +kernel
theorem dL_number_56 : decode cL_number 56 = .ok (.bipush 48, 2) := by decide +kernel
theorem dL_number_58 : decode cL_number 58 = .ok (.iload_n 3, 1) := by decide +kernel
theorem dL_number_59 : decode cL_number 59 = .ok (.iload 4, 2) := by decide +kernel
theorem dL_number_61 : decode cL_number 61 = .ok (.idiv, 1) := by decide +kernel
theorem dL_number_62 : decode cL_number 62 = .ok (.bipush 10, 2) := by decide +kernel
theorem dL_number_64 : decode cL_number 64 = .ok (.irem, 1) := by decide +kernel
theorem dL_number_65 : decode cL_number 65 = .ok (.iadd, 1) := by decide +kernel
theorem dL_number_66 : decode cL_number 66 = .ok (.invokestatic 21, 3) := by decide +kernel
theorem dL_number_69 : decode cL_number 69 = .ok (.iload 4, 2) := by decide +kernel
theorem dL_number_71 : decode cL_number 71 = .ok (.bipush 10, 2) := by decide +kernel
theorem dL_number_73 : decode cL_number 73 = .ok (.idiv, 1) := by decide +kernel
theorem dL_number_74 : decode cL_number 74 = .ok (.istore 4, 2) := by decide +kernel
theorem dL_number_76 : decode cL_number 76 = .ok (.goto (-27), 3) := by decide +kernel
theorem dL_number_79 : decode cL_number 79 = .ok (.return_, 1) := by decide +kernel
theorem dL_cell_0 : decode cL_cell 0 = .ok (.iload_n 1, 1) := by decide +kernel
theorem dL_cell_1 : decode cL_cell 1 = .ok (.aload_n 0, 1) := by decide +kernel
theorem dL_cell_2 : decode cL_cell 2 = .ok (.arraylength, 1) := by decide +kernel
theorem dL_cell_3 : decode cL_cell 3 = .ok (.if_icmp .ge 9, 3) := by decide +kernel
theorem dL_cell_6 : decode cL_cell 6 = .ok (.aload_n 0, 1) := by decide +kernel
theorem dL_cell_7 : decode cL_cell 7 = .ok (.iload_n 1, 1) := by decide +kernel
theorem dL_cell_8 : decode cL_cell 8 = .ok (.iaload, 1) := by decide +kernel
theorem dL_cell_9 : decode cL_cell 9 = .ok (.goto 4, 3) := by decide +kernel
theorem dL_cell_12 : decode cL_cell 12 = .ok (.iconst 0, 1) := by decide +kernel
theorem dL_cell_13 : decode cL_cell 13 = .ok (.ireturn, 1) := by decide +kernel
set_option maxRecDepth 20000 in
theorem ggL_told_L_cell : GoodIn wsL_told wsL_cell := goodIn_r _ [10] (by decide +kernel) (by decide +kernel)
set_option maxRecDepth 20000 in
theorem gL_told_L_cell : GoodIn wsL_told (va_wsS RL 25 yL_cell wsL_cell) := goodIn_app (goodIn_of _ (by decide +kernel)) ggL_told_L_cell
set_option maxRecDepth 20000 in
theorem ggL_told_L_say : GoodIn wsL_told wsL_say := goodIn_r _ [13, 14, 15, 16, 9, 17, 18, 19, 20, 21, 22, 23, 24, 25, 26, 27, 28, 29, 30, 31, 32, 33, 34, 35, 36, 37, 285, 286, 287, 288, 289, 290, 291, 292, 293, 294, 295, 296, 297, 298] (by decide +kernel) (by decide +kernel)
set_option maxRecDepth 20000 in
theorem gL_told_L_say : GoodIn wsL_told (va_wsS RL 31 yL_say wsL_say) := goodIn_app (goodIn_of _ (by decide +kernel)) ggL_told_L_say
set_option maxRecDepth 20000 in
theorem ggL_told_L_below : GoodIn wsL_told wsL_below := goodIn_r _ [40, 15, 16, 9, 17, 18, 19, 20, 21, 22, 23, 24, 25, 26, 27, 28, 29, 30, 31, 32, 33, 34, 35, 36, 37, 41, 42, 43, 285, 286, 287, 288, 289, 290, 291, 292, 293, 294, 295, 296, 297, 298] (by decide +kernel) (by decide +kernel)
set_option maxRecDepth 20000 in
theorem gL_told_L_below : GoodIn wsL_told (va_wsS RL 37 yL_below wsL_below) := goodIn_app (goodIn_of _ (by decide +kernel)) ggL_told_L_below
set_option maxRecDepth 20000 in
theorem ggL_told_L_number : GoodIn wsL_told wsL_number := goodIn_r _ [43, 15, 16, 9, 17, 18, 19, 20, 21, 22, 23, 24, 25, 26, 27, 28, 29, 30, 31, 32, 33, 34, 35, 36, 37, 285, 286, 287, 288, 289, 290, 291, 292, 293, 294, 295, 296, 297, 298] (by decide +kernel) (by decide +kernel)
set_option maxRecDepth 20000 in
theorem gL_told_L_number : GoodIn wsL_told (va_wsS RL 46 yL_number wsL_number) := goodIn_app (goodIn_of _ (by decide +kernel)) ggL_told_L_number
set_option maxRecDepth 20000 in
theorem ggL_told_L_put : GoodIn wsL_told wsL_put := goodIn_r _ [17, 18, 19, 9, 20, 21, 22, 23, 24, 25, 26, 27, 28, 29, 30, 31, 32, 33, 34, 35, 36, 37, 285, 286, 287, 288, 289, 290, 291, 292, 293, 294, 295, 296, 297, 298] (by decide +kernel) (by decide +kernel)
set_option maxRecDepth 20000 in
theorem gL_told_L_put : GoodIn wsL_told (va_wsS RL 21 yL_put wsL_put) := goodIn_app (goodIn_of _ (by decide +kernel)) ggL_told_L_put
set_option maxRecDepth 20000 in
theorem ggL_told_L_rest : GoodIn wsL_told wsL_rest := goodIn_r _ [46, 47, 48, 49, 11, 12, 9, 13, 14, 15, 16, 17, 18, 19, 20, 21, 22, 23, 24, 25, 26, 27, 28, 29, 30, 31, 32, 33, 34, 35, 36, 37, 41, 42, 43, 50, 51, 52, 53, 54, 55, 56, 57, 58, 59, 60, 61, 62, 63, 64, 65, 66, 67, 68, 69, 70, 71, 72, 73, 74, 75, 76, 77, 78, 79, 80, 81, 82, 83, 84, 85, 86, 87, 88, 89, 90, 91, 92, 93, 94, 95, 96, 97, 98, 99, 100, 101, 102, 103, 104, 105, 106, 107, 108, 109, 110, 111, 112, 113, 114, 115, 116, 117, 118, 119, 120, 121, 122, 123, 124, 125, 126, 127, 128, 129, 130, 131, 132, 133, 134, 135, 136, 137, 138, 139, 140, 141, 142, 143, 144, 145, 146, 147, 148, 149, 150, 151, 152, 153, 154, 155, 156, 157, 158, 159, 160, 161, 162, 163, 164, 165, 166, 167, 168, 169, 170, 171, 172, 173, 174, 175, 176, 177, 178, 179, 180, 181, 182, 183, 184, 185, 186, 187, 188, 189, 190, 191, 192, 193, 194, 195, 196, 197, 198, 199, 200, 201, 202, 203, 204, 205, 206, 207, 208, 209, 210, 211, 212, 213, 214, 215, 216, 217, 218, 219, 220, 221, 222, 223, 224, 225, 226, 227, 228, 229, 230, 231, 232, 233, 234, 235, 236, 237, 238, 239, 240, 241, 242, 243, 244, 245, 246, 247, 248, 249, 250, 251, 252, 253, 254, 255, 256, 257, 258, 259, 260, 261, 262, 263, 264, 265, 266, 267, 268, 269, 270, 271, 272, 273, 274, 275, 276, 277, 278, 279, 280, 281, 282, 283, 284, 285, 286, 287, 288, 289, 290, 291, 292, 293, 294, 295, 296, 297, 298, 299, 300, 301, 302, 303, 304, 305, 306, 307, 308, 309, 310, 311, 312, 313, 314, 315, 316, 317, 318, 319, 320, 321, 322, 323, 324, 325, 326, 327, 328, 329, 330, 331, 332] (by decide +kernel) (by decide +kernel)
set_option maxRecDepth 20000 in
theorem gL_told_L_rest : GoodIn wsL_told (va_wsS RL 51 yL_rest wsL_rest) := goodIn_app (goodIn_of _ (by decide +kernel)) ggL_told_L_rest
theorem dL_told_0 : decode cL_told 0 = .ok (.aload_n 2, 1) := by decide +kernel
theorem dL_told_1 : decode cL_told 1 = .ok (.iload_n 3, 1) := by decide +kernel
theorem dL_told_2 : decode cL_told 2 = .ok (.invokestatic 25, 3) := by decide +kernel
theorem dL_told_5 : decode cL_told 5 = .ok (.istore 6, 2) := by decide +kernel
theorem dL_told_7 : decode cL_told 7 = .ok (.aload 4, 2) := by decide +kernel
theorem dL_told_9 : decode cL_told 9 = .ok (.iconst 0, 1) := by decide +kernel
theorem dL_told_10 : decode cL_told 10 = .ok (.iload 6, 2) := by decide +kernel
theorem dL_told_12 : decode cL_told 12 = .ok (.bipush 31, 2) := by decide +kernel
theorem dL_told_14 : decode cL_told 14 = .ok (.iand, 1) := by decide +kernel
theorem dL_told_15 : decode cL_told 15 = .ok (.bipush 16, 2) := by decide +kernel
theorem dL_told_17 : decode cL_told 17 = .ok (.isub, 1) := by decide +kernel
theorem dL_told_18 : decode cL_told 18 = .ok (.iastore, 1) := by decide +kernel
theorem dL_told_19 : decode cL_told 19 = .ok (.aload 4, 2) := by decide +kernel
theorem dL_told_21 : decode cL_told 21 = .ok (.iconst 1, 1) := by decide +kernel
theorem dL_told_22 : decode cL_told 22 = .ok (.iload 6, 2) := by decide +kernel
theorem dL_told_24 : decode cL_told 24 = .ok (.iconst 5, 1) := by decide +kernel
theorem dL_told_25 : decode cL_told 25 = .ok (.ishr, 1) := by decide +kernel
theorem dL_told_26 : decode cL_told 26 = .ok (.bipush 31, 2) := by decide +kernel
theorem dL_told_28 : decode cL_told 28 = .ok (.iand, 1) := by decide +kernel
theorem dL_told_29 : decode cL_told 29 = .ok (.bipush 16, 2) := by decide +kernel
theorem dL_told_31 : decode cL_told 31 = .ok (.isub, 1) := by decide +kernel
theorem dL_told_32 : decode cL_told 32 = .ok (.iastore, 1) := by decide +kernel
theorem dL_told_33 : decode cL_told 33 = .ok (.aload 4, 2) := by decide +kernel
theorem dL_told_35 : decode cL_told 35 = .ok (.iconst 2, 1) := by decide +kernel
theorem dL_told_36 : decode cL_told 36 = .ok (.iload 6, 2) := by decide +kernel
theorem dL_told_38 : decode cL_told 38 = .ok (.bipush 10, 2) := by decide +kernel
theorem dL_told_40 : decode cL_told 40 = .ok (.ishr, 1) := by decide +kernel
theorem dL_told_41 : decode cL_told 41 = .ok (.bipush 31, 2) := by decide +kernel
theorem dL_told_43 : decode cL_told 43 = .ok (.iand, 1) := by decide +kernel
theorem dL_told_44 : decode cL_told 44 = .ok (.bipush 16, 2) := by decide +kernel
theorem dL_told_46 : decode cL_told 46 = .ok (.isub, 1) := by decide +kernel
theorem dL_told_47 : decode cL_told 47 = .ok (.iastore, 1) := by decide +kernel
theorem dL_told_48 : decode cL_told 48 = .ok (.aload 4, 2) := by decide +kernel
theorem dL_told_50 : decode cL_told 50 = .ok (.iconst 3, 1) := by decide +kernel
theorem dL_told_51 : decode cL_told 51 = .ok (.iload 6, 2) := by decide +kernel
theorem dL_told_53 : decode cL_told 53 = .ok (.bipush 15, 2) := by decide +kernel
theorem dL_told_55 : decode cL_told 55 = .ok (.ishr, 1) := by decide +kernel
theorem dL_told_56 : decode cL_told 56 = .ok (.bipush 127, 2) := by decide +kernel
theorem dL_told_58 : decode cL_told 58 = .ok (.iand, 1) := by decide +kernel
theorem dL_told_59 : decode cL_told 59 = .ok (.bipush 101, 2) := by decide +kernel
theorem dL_told_61 : decode cL_told 61 = .ok (.irem, 1) := by decide +kernel
theorem dL_told_62 : decode cL_told 62 = .ok (.iastore, 1) := by decide +kernel
theorem dL_told_63 : decode cL_told 63 = .ok (.aload 4, 2) := by decide +kernel
theorem dL_told_65 : decode cL_told 65 = .ok (.iconst 4, 1) := by decide +kernel
theorem dL_told_66 : decode cL_told 66 = .ok (.iconst 1, 1) := by decide +kernel
theorem dL_told_67 : decode cL_told 67 = .ok (.iload 6, 2) := by decide +kernel
theorem dL_told_69 : decode cL_told 69 = .ok (.bipush 22, 2) := by decide +kernel
theorem dL_told_71 : decode cL_told 71 = .ok (.ishr, 1) := by decide +kernel
theorem dL_told_72 : decode cL_told 72 = .ok (.iconst 1, 1) := by decide +kernel
theorem dL_told_73 : decode cL_told 73 = .ok (.iand, 1) := by decide +kernel
theorem dL_told_74 : decode cL_told 74 = .ok (.iadd, 1) := by decide +kernel
theorem dL_told_75 : decode cL_told 75 = .ok (.iastore, 1) := by decide +kernel
theorem dL_told_76 : decode cL_told 76 = .ok (.aload 4, 2) := by decide +kernel
theorem dL_told_78 : decode cL_told 78 = .ok (.bipush 9, 2) := by decide +kernel
theorem dL_told_80 : decode cL_told 80 = .ok (.iload 6, 2) := by decide +kernel
theorem dL_told_82 : decode cL_told 82 = .ok (.bipush 23, 2) := by decide +kernel
theorem dL_told_84 : decode cL_told 84 = .ok (.ishr, 1) := by decide +kernel
theorem dL_told_85 : decode cL_told 85 = .ok (.iconst 3, 1) := by decide +kernel
theorem dL_told_86 : decode cL_told 86 = .ok (.iand, 1) := by decide +kernel
theorem dL_told_87 : decode cL_told 87 = .ok (.iconst 3, 1) := by decide +kernel
theorem dL_told_88 : decode cL_told 88 = .ok (.irem, 1) := by decide +kernel
theorem dL_told_89 : decode cL_told 89 = .ok (.iastore, 1) := by decide +kernel
theorem dL_told_90 : decode cL_told 90 = .ok (.aload 4, 2) := by decide +kernel
theorem dL_told_92 : decode cL_told 92 = .ok (.bipush 14, 2) := by decide +kernel
theorem dL_told_94 : decode cL_told 94 = .ok (.iload 6, 2) := by decide +kernel
theorem dL_told_96 : decode cL_told 96 = .ok (.bipush 25, 2) := by decide +kernel
theorem dL_told_98 : decode cL_told 98 = .ok (.ishr, 1) := by decide +kernel
theorem dL_told_99 : decode cL_told 99 = .ok (.iconst 3, 1) := by decide +kernel
theorem dL_told_100 : decode cL_told 100 = .ok (.iand, 1) := by decide +kernel
theorem dL_told_101 : decode cL_told 101 = .ok (.iconst 3, 1) := by decide +kernel
theorem dL_told_102 : decode cL_told 102 = .ok (.irem, 1) := by decide +kernel
theorem dL_told_103 : decode cL_told 103 = .ok (.iastore, 1) := by decide +kernel
theorem dL_told_104 : decode cL_told 104 = .ok (.aload_n 2, 1) := by decide +kernel
theorem dL_told_105 : decode cL_told 105 = .ok (.iload_n 3, 1) := by decide +kernel
theorem dL_told_106 : decode cL_told 106 = .ok (.iconst 1, 1) := by decide +kernel
theorem dL_told_107 : decode cL_told 107 = .ok (.iadd, 1) := by decide +kernel
theorem dL_told_108 : decode cL_told 108 = .ok (.invokestatic 25, 3) := by decide +kernel
theorem dL_told_111 : decode cL_told 111 = .ok (.istore 6, 2) := by decide +kernel
theorem dL_told_113 : decode cL_told 113 = .ok (.iconst 0, 1) := by decide +kernel
theorem dL_told_114 : decode cL_told 114 = .ok (.istore 7, 2) := by decide +kernel
theorem dL_told_116 : decode cL_told 116 = .ok (.iload 7, 2) := by decide +kernel
theorem dL_told_118 : decode cL_told 118 = .ok (.iconst 2, 1) := by decide +kernel
theorem dL_told_119 : decode cL_told 119 = .ok (.if_icmp .ge 88, 3) := by decide +kernel
theorem dL_told_122 : decode cL_told 122 = .ok (.iconst 2, 1) := by decide +kernel
theorem dL_told_123 : decode cL_told 123 = .ok (.iload 6, 2) := by decide +kernel
theorem dL_told_125 : decode cL_told 125 = .ok (.iconst 3, 1) := by decide +kernel
theorem dL_told_126 : decode cL_told 126 = .ok (.iload 7, 2) := by decide +kernel
theorem dL_told_128 : decode cL_told 128 = .ok (.imul, 1) := by decide +kernel
theorem dL_told_129 : decode cL_told 129 = .ok (.ishr, 1) := by decide +kernel
theorem dL_told_130 : decode cL_told 130 = .ok (.bipush 7, 2) := by decide +kernel
theorem dL_told_132 : decode cL_told 132 = .ok (.iand, 1) := by decide +kernel
theorem dL_told_133 : decode cL_told 133 = .ok (.iconst 5, 1) := by decide +kernel
theorem dL_told_134 : decode cL_told 134 = .ok (.irem, 1) := by decide +kernel
theorem dL_told_135 : decode cL_told 135 = .ok (.iadd, 1) := by decide +kernel
theorem dL_told_136 : decode cL_told 136 = .ok (.istore 8, 2) := by decide +kernel
theorem dL_told_138 : decode cL_told 138 = .ok (.aload 4, 2) := by decide +kernel
theorem dL_told_140 : decode cL_told 140 = .ok (.iconst 5, 1) := by decide +kernel
theorem dL_told_141 : decode cL_told 141 = .ok (.iconst 2, 1) := by decide +kernel
theorem dL_told_142 : decode cL_told 142 = .ok (.iload 7, 2) := by decide +kernel
theorem dL_told_144 : decode cL_told 144 = .ok (.imul, 1) := by decide +kernel
theorem dL_told_145 : decode cL_told 145 = .ok (.iadd, 1) := by decide +kernel
theorem dL_told_146 : decode cL_told 146 = .ok (.iload 8, 2) := by decide +kernel
theorem dL_told_148 : decode cL_told 148 = .ok (.iastore, 1) := by decide +kernel
theorem dL_told_149 : decode cL_told 149 = .ok (.aload 4, 2) := by decide +kernel
theorem dL_told_151 : decode cL_told 151 = .ok (.bipush 6, 2) := by decide +kernel
theorem dL_told_153 : decode cL_told 153 = .ok (.iconst 2, 1) := by decide +kernel
theorem dL_told_154 : decode cL_told 154 = .ok (.iload 7, 2) := by decide +kernel
theorem dL_told_156 : decode cL_told 156 = .ok (.imul, 1) := by decide +kernel
theorem dL_told_157 : decode cL_told 157 = .ok (.iadd, 1) := by decide +kernel
theorem dL_told_158 : decode cL_told 158 = .ok (.iload 6, 2) := by decide +kernel
theorem dL_told_160 : decode cL_told 160 = .ok (.bipush 6, 2) := by decide +kernel
theorem dL_told_162 : decode cL_told 162 = .ok (.bipush 6, 2) := by decide +kernel
theorem dL_told_164 : decode cL_told 164 = .ok (.iload 7, 2) := by decide +kernel
theorem dL_told_166 : decode cL_told 166 = .ok (.imul, 1) := by decide +kernel
theorem dL_told_167 : decode cL_told 167 = .ok (.iadd, 1) := by decide +kernel
theorem dL_told_168 : decode cL_told 168 = .ok (.ishr, 1) := by decide +kernel
theorem dL_told_169 : decode cL_told 169 = .ok (.iconst 1, 1) := by decide +kernel
theorem dL_told_170 : decode cL_told 170 = .ok (.iload 8, 2) := by decide +kernel
theorem dL_told_172 : decode cL_told 172 = .ok (.ishl, 1) := by decide +kernel
theorem dL_told_173 : decode cL_told 173 = .ok (.iconst 1, 1) := by decide +kernel
theorem dL_told_174 : decode cL_told 174 = .ok (.isub, 1) := by decide +kernel
theorem dL_told_175 : decode cL_told 175 = .ok (.iand, 1) := by decide +kernel
theorem dL_told_176 : decode cL_told 176 = .ok (.iastore, 1) := by decide +kernel
theorem dL_told_177 : decode cL_told 177 = .ok (.aload 5, 2) := by decide +kernel
theorem dL_told_179 : decode cL_told 179 = .ok (.iload 7, 2) := by decide +kernel
theorem dL_told_181 : decode cL_told 181 = .ok (.iload 8, 2) := by decide +kernel
theorem dL_told_183 : decode cL_told 183 = .ok (.iastore, 1) := by decide +kernel
theorem dL_told_184 : decode cL_told 184 = .ok (.aload 5, 2) := by decide +kernel
theorem dL_told_186 : decode cL_told 186 = .ok (.iconst 2, 1) := by decide +kernel
theorem dL_told_187 : decode cL_told 187 = .ok (.iload 7, 2) := by decide +kernel
theorem dL_told_189 : decode cL_told 189 = .ok (.iadd, 1) := by decide +kernel
theorem dL_told_190 : decode cL_told 190 = .ok (.aload 4, 2) := by decide +kernel
theorem dL_told_192 : decode cL_told 192 = .ok (.bipush 6, 2) := by decide +kernel
theorem dL_told_194 : decode cL_told 194 = .ok (.iconst 2, 1) := by decide +kernel
theorem dL_told_195 : decode cL_told 195 = .ok (.iload 7, 2) := by decide +kernel
theorem dL_told_197 : decode cL_told 197 = .ok (.imul, 1) := by decide +kernel
theorem dL_told_198 : decode cL_told 198 = .ok (.iadd, 1) := by decide +kernel
theorem dL_told_199 : decode cL_told 199 = .ok (.iaload, 1) := by decide +kernel
theorem dL_told_200 : decode cL_told 200 = .ok (.iastore, 1) := by decide +kernel
theorem dL_told_201 : decode cL_told 201 = .ok (.iinc 7 1, 3) := by decide +kernel
theorem dL_told_204 : decode cL_told 204 = .ok (.goto (-88), 3) := by decide +kernel
theorem dL_told_207 : decode cL_told 207 = .ok (.aload_n 2, 1) := by decide +kernel
theorem dL_told_208 : decode cL_told 208 = .ok (.iload_n 3, 1) := by decide +kernel
theorem dL_told_209 : decode cL_told 209 = .ok (.iconst 2, 1) := by decide +kernel
theorem dL_told_210 : decode cL_told 210 = .ok (.iadd, 1) := by decide +kernel
theorem dL_told_211 : decode cL_told 211 = .ok (.invokestatic 25, 3) := by decide +kernel
theorem dL_told_214 : decode cL_told 214 = .ok (.istore 6, 2) := by decide +kernel
theorem dL_told_216 : decode cL_told 216 = .ok (.aload 4, 2) := by decide +kernel
theorem dL_told_218 : decode cL_told 218 = .ok (.bipush 10, 2) := by decide +kernel
theorem dL_told_220 : decode cL_told 220 = .ok (.iload 6, 2) := by decide +kernel
theorem dL_told_222 : decode cL_told 222 = .ok (.iconst 1, 1) := by decide +kernel
theorem dL_told_223 : decode cL_told 223 = .ok (.iand, 1) := by decide +kernel
theorem dL_told_224 : decode cL_told 224 = .ok (.aload 4, 2) := by decide +kernel
theorem dL_told_226 : decode cL_told 226 = .ok (.iconst 4, 1) := by decide +kernel
theorem dL_told_227 : decode cL_told 227 = .ok (.iaload, 1) := by decide +kernel
theorem dL_told_228 : decode cL_told 228 = .ok (.irem, 1) := by decide +kernel
theorem dL_told_229 : decode cL_told 229 = .ok (.iastore, 1) := by decide +kernel
theorem dL_told_230 : decode cL_told 230 = .ok (.aload 4, 2) := by decide +kernel
theorem dL_told_232 : decode cL_told 232 = .ok (.bipush 11, 2) := by decide +kernel
theorem dL_told_234 : decode cL_told 234 = .ok (.iload 6, 2) := by decide +kernel
theorem dL_told_236 : decode cL_told 236 = .ok (.iconst 1, 1) := by decide +kernel
theorem dL_told_237 : decode cL_told 237 = .ok (.ishr, 1) := by decide +kernel
theorem dL_told_238 : decode cL_told 238 = .ok (.bipush 7, 2) := by decide +kernel
theorem dL_told_240 : decode cL_told 240 = .ok (.iand, 1) := by decide +kernel
theorem dL_told_241 : decode cL_told 241 = .ok (.aload 4, 2) := by decide +kernel
theorem dL_told_243 : decode cL_told 243 = .ok (.iconst 5, 1) := by decide +kernel
theorem dL_told_244 : decode cL_told 244 = .ok (.iconst 2, 1) := by decide +kernel
theorem dL_told_245 : decode cL_told 245 = .ok (.aload 4, 2) := by decide +kernel
theorem dL_told_247 : decode cL_told 247 = .ok (.bipush 10, 2) := by decide +kernel
theorem dL_told_249 : decode cL_told 249 = .ok (.iaload, 1) := by decide +kernel
theorem dL_told_250 : decode cL_told 250 = .ok (.imul, 1) := by decide +kernel
theorem dL_told_251 : decode cL_told 251 = .ok (.iadd, 1) := by decide +kernel
theorem dL_told_252 : decode cL_told 252 = .ok (.iaload, 1) := by decide +kernel
theorem dL_told_253 : decode cL_told 253 = .ok (.irem, 1) := by decide +kernel
theorem dL_told_254 : decode cL_told 254 = .ok (.iastore, 1) := by decide +kernel
theorem dL_told_255 : decode cL_told 255 = .ok (.aload 4, 2) := by decide +kernel
theorem dL_told_257 : decode cL_told 257 = .ok (.bipush 12, 2) := by decide +kernel
theorem dL_told_259 : decode cL_told 259 = .ok (.aload 4, 2) := by decide +kernel
theorem dL_told_261 : decode cL_told 261 = .ok (.bipush 10, 2) := by decide +kernel
theorem dL_told_263 : decode cL_told 263 = .ok (.iaload, 1) := by decide +kernel
theorem dL_told_264 : decode cL_told 264 = .ok (.iconst 1, 1) := by decide +kernel
theorem dL_told_265 : decode cL_told 265 = .ok (.iadd, 1) := by decide +kernel
theorem dL_told_266 : decode cL_told 266 = .ok (.aload 4, 2) := by decide +kernel
theorem dL_told_268 : decode cL_told 268 = .ok (.iconst 4, 1) := by decide +kernel
theorem dL_told_269 : decode cL_told 269 = .ok (.iaload, 1) := by decide +kernel
theorem dL_told_270 : decode cL_told 270 = .ok (.irem, 1) := by decide +kernel
theorem dL_told_271 : decode cL_told 271 = .ok (.iastore, 1) := by decide +kernel
theorem dL_told_272 : decode cL_told 272 = .ok (.aload 4, 2) := by decide +kernel
theorem dL_told_274 : decode cL_told 274 = .ok (.bipush 13, 2) := by decide +kernel
theorem dL_told_276 : decode cL_told 276 = .ok (.aload 4, 2) := by decide +kernel
theorem dL_told_278 : decode cL_told 278 = .ok (.bipush 12, 2) := by decide +kernel
theorem dL_told_280 : decode cL_told 280 = .ok (.iaload, 1) := by decide +kernel
theorem dL_told_281 : decode cL_told 281 = .ok (.aload 4, 2) := by decide +kernel
theorem dL_told_283 : decode cL_told 283 = .ok (.bipush 10, 2) := by decide +kernel
theorem dL_told_285 : decode cL_told 285 = .ok (.iaload, 1) := by decide +kernel
theorem dL_told_286 : decode cL_told 286 = .ok (.if_icmp .ne 26, 3) := by decide +kernel
theorem dL_told_289 : decode cL_told 289 = .ok (.aload 4, 2) := by decide +kernel
theorem dL_told_291 : decode cL_told 291 = .ok (.bipush 11, 2) := by decide +kernel
theorem dL_told_293 : decode cL_told 293 = .ok (.iaload, 1) := by decide +kernel
theorem dL_told_294 : decode cL_told 294 = .ok (.iconst 1, 1) := by decide +kernel
theorem dL_told_295 : decode cL_told 295 = .ok (.iadd, 1) := by decide +kernel
theorem dL_told_296 : decode cL_told 296 = .ok (.aload 4, 2) := by decide +kernel
theorem dL_told_298 : decode cL_told 298 = .ok (.iconst 5, 1) := by decide +kernel
theorem dL_told_299 : decode cL_told 299 = .ok (.iconst 2, 1) := by decide +kernel
theorem dL_told_300 : decode cL_told 300 = .ok (.aload 4, 2) := by decide +kernel
theorem dL_told_302 : decode cL_told 302 = .ok (.bipush 10, 2) := by decide +kernel
theorem dL_told_304 : decode cL_told 304 = .ok (.iaload, 1) := by decide +kernel
theorem dL_told_305 : decode cL_told 305 = .ok (.imul, 1) := by decide +kernel
theorem dL_told_306 : decode cL_told 306 = .ok (.iadd, 1) := by decide +kernel
theorem dL_told_307 : decode cL_told 307 = .ok (.iaload, 1) := by decide +kernel
theorem dL_told_308 : decode cL_told 308 = .ok (.irem, 1) := by decide +kernel
theorem dL_told_309 : decode cL_told 309 = .ok (.goto 23, 3) := by decide +kernel
theorem dL_told_312 : decode cL_told 312 = .ok (.iload 6, 2) := by decide +kernel
theorem dL_told_314 : decode cL_told 314 = .ok (.iconst 4, 1) := by decide +kernel
theorem dL_told_315 : decode cL_told 315 = .ok (.ishr, 1) := by decide +kernel
theorem dL_told_316 : decode cL_told 316 = .ok (.bipush 7, 2) := by decide +kernel
theorem dL_told_318 : decode cL_told 318 = .ok (.iand, 1) := by decide +kernel
theorem dL_told_319 : decode cL_told 319 = .ok (.aload 4, 2) := by decide +kernel
theorem dL_told_321 : decode cL_told 321 = .ok (.iconst 5, 1) := by decide +kernel
theorem dL_told_322 : decode cL_told 322 = .ok (.iconst 2, 1) := by decide +kernel
theorem dL_told_323 : decode cL_told 323 = .ok (.aload 4, 2) := by decide +kernel
theorem dL_told_325 : decode cL_told 325 = .ok (.bipush 12, 2) := by decide +kernel
theorem dL_told_327 : decode cL_told 327 = .ok (.iaload, 1) := by decide +kernel
theorem dL_told_328 : decode cL_told 328 = .ok (.imul, 1) := by decide +kernel
theorem dL_told_329 : decode cL_told 329 = .ok (.iadd, 1) := by decide +kernel
theorem dL_told_330 : decode cL_told 330 = .ok (.iaload, 1) := by decide +kernel
theorem dL_told_331 : decode cL_told 331 = .ok (.irem, 1) := by decide +kernel
theorem dL_told_332 : decode cL_told 332 = .ok (.iastore, 1) := by decide +kernel
theorem dL_told_333 : decode cL_told 333 = .ok (.iconst 0, 1) := by decide +kernel
theorem dL_told_334 : decode cL_told 334 = .ok (.istore 7, 2) := by decide +kernel
theorem dL_told_336 : decode cL_told 336 = .ok (.iload 7, 2) := by decide +kernel
theorem dL_told_338 : decode cL_told 338 = .ok (.iconst 2, 1) := by decide +kernel
theorem dL_told_339 : decode cL_told 339 = .ok (.if_icmp .ge 82, 3) := by decide +kernel
theorem dL_told_342 : decode cL_told 342 = .ok (.iload 6, 2) := by decide +kernel
theorem dL_told_344 : decode cL_told 344 = .ok (.bipush 7, 2) := by decide +kernel
theorem dL_told_346 : decode cL_told 346 = .ok (.bipush 8, 2) := by decide +kernel
theorem dL_told_348 : decode cL_told 348 = .ok (.iload 7, 2) := by decide +kernel
theorem dL_told_350 : decode cL_told 350 = .ok (.imul, 1) := by decide +kernel
theorem dL_told_351 : decode cL_told 351 = .ok (.iadd, 1) := by decide +kernel
theorem dL_told_352 : decode cL_told 352 = .ok (.ishr, 1) := by decide +kernel
theorem dL_told_353 : decode cL_told 353 = .ok (.istore 8, 2) := by decide +kernel
theorem dL_told_355 : decode cL_told 355 = .ok (.aload 4, 2) := by decide +kernel
theorem dL_told_357 : decode cL_told 357 = .ok (.bipush 15, 2) := by decide +kernel
theorem dL_told_359 : decode cL_told 359 = .ok (.iconst 3, 1) := by decide +kernel
theorem dL_told_360 : decode cL_told 360 = .ok (.iload 7, 2) := by decide +kernel
theorem dL_told_362 : decode cL_told 362 = .ok (.imul, 1) := by decide +kernel
theorem dL_told_363 : decode cL_told 363 = .ok (.iadd, 1) := by decide +kernel
theorem dL_told_364 : decode cL_told 364 = .ok (.iload 8, 2) := by decide +kernel
theorem dL_told_366 : decode cL_told 366 = .ok (.iconst 1, 1) := by decide +kernel
theorem dL_told_367 : decode cL_told 367 = .ok (.iand, 1) := by decide +kernel
theorem dL_told_368 : decode cL_told 368 = .ok (.aload 4, 2) := by decide +kernel
theorem dL_told_370 : decode cL_told 370 = .ok (.iconst 4, 1) := by decide +kernel
theorem dL_told_371 : decode cL_told 371 = .ok (.iaload, 1) := by decide +kernel
theorem dL_told_372 : decode cL_told 372 = .ok (.irem, 1) := by decide +kernel
theorem dL_told_373 : decode cL_told 373 = .ok (.iastore, 1) := by decide +kernel
theorem dL_told_374 : decode cL_told 374 = .ok (.aload 4, 2) := by decide +kernel
theorem dL_told_376 : decode cL_told 376 = .ok (.bipush 16, 2) := by decide +kernel
theorem dL_told_378 : decode cL_told 378 = .ok (.iconst 3, 1) := by decide +kernel
theorem dL_told_379 : decode cL_told 379 = .ok (.iload 7, 2) := by decide +kernel
theorem dL_told_381 : decode cL_told 381 = .ok (.imul, 1) := by decide +kernel
theorem dL_told_382 : decode cL_told 382 = .ok (.iadd, 1) := by decide +kernel
theorem dL_told_383 : decode cL_told 383 = .ok (.iconst 1, 1) := by decide +kernel
theorem dL_told_384 : decode cL_told 384 = .ok (.iconst 2, 1) := by decide +kernel
theorem dL_told_385 : decode cL_told 385 = .ok (.iload 8, 2) := by decide +kernel
theorem dL_told_387 : decode cL_told 387 = .ok (.iconst 1, 1) := by decide +kernel
theorem dL_told_388 : decode cL_told 388 = .ok (.ishr, 1) := by decide +kernel
theorem dL_told_389 : decode cL_told 389 = .ok (.bipush 7, 2) := by decide +kernel
theorem dL_told_391 : decode cL_told 391 = .ok (.iand, 1) := by decide +kernel
theorem dL_told_392 : decode cL_told 392 = .ok (.imul, 1) := by decide +kernel
theorem dL_told_393 : decode cL_told 393 = .ok (.iadd, 1) := by decide +kernel
theorem dL_told_394 : decode cL_told 394 = .ok (.iload 7, 2) := by decide +kernel
theorem dL_told_396 : decode cL_told 396 = .ok (.iadd, 1) := by decide +kernel
theorem dL_told_397 : decode cL_told 397 = .ok (.iastore, 1) := by decide +kernel
theorem dL_told_398 : decode cL_told 398 = .ok (.aload 4, 2) := by decide +kernel
theorem dL_told_400 : decode cL_told 400 = .ok (.bipush 17, 2) := by decide +kernel
theorem dL_told_402 : decode cL_told 402 = .ok (.iconst 3, 1) := by decide +kernel
theorem dL_told_403 : decode cL_told 403 = .ok (.iload 7, 2) := by decide +kernel
theorem dL_told_405 : decode cL_told 405 = .ok (.imul, 1) := by decide +kernel
theorem dL_told_406 : decode cL_told 406 = .ok (.iadd, 1) := by decide +kernel
theorem dL_told_407 : decode cL_told 407 = .ok (.iload 8, 2) := by decide +kernel
theorem dL_told_409 : decode cL_told 409 = .ok (.iconst 4, 1) := by decide +kernel
theorem dL_told_410 : decode cL_told 410 = .ok (.ishr, 1) := by decide +kernel
theorem dL_told_411 : decode cL_told 411 = .ok (.bipush 15, 2) := by decide +kernel
theorem dL_told_413 : decode cL_told 413 = .ok (.iand, 1) := by decide +kernel
theorem dL_told_414 : decode cL_told 414 = .ok (.iastore, 1) := by decide +kernel
theorem dL_told_415 : decode cL_told 415 = .ok (.iinc 7 1, 3) := by decide +kernel
theorem dL_told_418 : decode cL_told 418 = .ok (.goto (-82), 3) := by decide +kernel
theorem dL_told_421 : decode cL_told 421 = .ok (.aload_n 0, 1) := by decide +kernel
theorem dL_told_422 : decode cL_told 422 = .ok (.aload_n 1, 1) := by decide +kernel
theorem dL_told_423 : decode cL_told 423 = .ok (.ldc2_w 29, 3) := by decide +kernel
theorem dL_told_426 : decode cL_told 426 = .ok (.invokestatic 31, 3) := by decide +kernel
theorem dL_told_429 : decode cL_told 429 = .ok (.aload_n 0, 1) := by decide +kernel
theorem dL_told_430 : decode cL_told 430 = .ok (.aload_n 1, 1) := by decide +kernel
theorem dL_told_431 : decode cL_told 431 = .ok (.ldc2_w 35, 3) := by decide +kernel
theorem dL_told_434 : decode cL_told 434 = .ok (.invokestatic 31, 3) := by decide +kernel
theorem dL_told_437 : decode cL_told 437 = .ok (.aload_n 0, 1) := by decide +kernel
theorem dL_told_438 : decode cL_told 438 = .ok (.aload_n 1, 1) := by decide +kernel
theorem dL_told_439 : decode cL_told 439 = .ok (.aload 4, 2) := by decide +kernel
theorem dL_told_441 : decode cL_told 441 = .ok (.iconst 0, 1) := by decide +kernel
theorem dL_told_442 : decode cL_told 442 = .ok (.iaload, 1) := by decide +kernel
theorem dL_told_443 : decode cL_told 443 = .ok (.invokestatic 37, 3) := by decide +kernel
theorem dL_told_446 : decode cL_told 446 = .ok (.aload_n 0, 1) := by decide +kernel
theorem dL_told_447 : decode cL_told 447 = .ok (.aload_n 1, 1) := by decide +kernel
theorem dL_told_448 : decode cL_told 448 = .ok (.ldc2_w 40, 3) := by decide +kernel
theorem dL_told_451 : decode cL_told 451 = .ok (.invokestatic 31, 3) := by decide +kernel
theorem dL_told_454 : decode cL_told 454 = .ok (.aload_n 0, 1) := by decide +kernel
theorem dL_told_455 : decode cL_told 455 = .ok (.aload_n 1, 1) := by decide +kernel
theorem dL_told_456 : decode cL_told 456 = .ok (.aload 4, 2) := by decide +kernel
theorem dL_told_458 : decode cL_told 458 = .ok (.iconst 1, 1) := by decide +kernel
theorem dL_told_459 : decode cL_told 459 = .ok (.iaload, 1) := by decide +kernel
theorem dL_told_460 : decode cL_told 460 = .ok (.invokestatic 37, 3) := by decide +kernel
theorem dL_told_463 : decode cL_told 463 = .ok (.aload_n 0, 1) := by decide +kernel
theorem dL_told_464 : decode cL_told 464 = .ok (.aload_n 1, 1) := by decide +kernel
theorem dL_told_465 : decode cL_told 465 = .ok (.ldc2_w 42, 3) := by decide +kernel
theorem dL_told_468 : decode cL_told 468 = .ok (.invokestatic 31, 3) := by decide +kernel
theorem dL_told_471 : decode cL_told 471 = .ok (.aload_n 0, 1) := by decide +kernel
theorem dL_told_472 : decode cL_told 472 = .ok (.aload_n 1, 1) := by decide +kernel
theorem dL_told_473 : decode cL_told 473 = .ok (.aload 4, 2) := by decide +kernel
theorem dL_told_475 : decode cL_told 475 = .ok (.iconst 2, 1) := by decide +kernel
theorem dL_told_476 : decode cL_told 476 = .ok (.iaload, 1) := by decide +kernel
theorem dL_told_477 : decode cL_told 477 = .ok (.invokestatic 37, 3) := by decide +kernel
theorem dL_told_480 : decode cL_told 480 = .ok (.aload_n 0, 1) := by decide +kernel
theorem dL_told_481 : decode cL_told 481 = .ok (.aload_n 1, 1) := by decide +kernel
theorem dL_told_482 : decode cL_told 482 = .ok (.ldc2_w 44, 3) := by decide +kernel
theorem dL_told_485 : decode cL_told 485 = .ok (.invokestatic 31, 3) := by decide +kernel
theorem dL_told_488 : decode cL_told 488 = .ok (.aload_n 0, 1) := by decide +kernel
theorem dL_told_489 : decode cL_told 489 = .ok (.aload_n 1, 1) := by decide +kernel
theorem dL_told_490 : decode cL_told 490 = .ok (.aload 4, 2) := by decide +kernel
theorem dL_told_492 : decode cL_told 492 = .ok (.iconst 3, 1) := by decide +kernel
theorem dL_told_493 : decode cL_told 493 = .ok (.iaload, 1) := by decide +kernel
theorem dL_told_494 : decode cL_told 494 = .ok (.invokestatic 46, 3) := by decide +kernel
theorem dL_told_497 : decode cL_told 497 = .ok (.iconst 0, 1) := by decide +kernel
theorem dL_told_498 : decode cL_told 498 = .ok (.istore 7, 2) := by decide +kernel
theorem dL_told_500 : decode cL_told 500 = .ok (.iload 7, 2) := by decide +kernel
theorem dL_told_502 : decode cL_told 502 = .ok (.aload 4, 2) := by decide +kernel
theorem dL_told_504 : decode cL_told 504 = .ok (.iconst 4, 1) := by decide +kernel
theorem dL_told_505 : decode cL_told 505 = .ok (.iaload, 1) := by decide +kernel
theorem dL_told_506 : decode cL_told 506 = .ok (.if_icmp .ge 89, 3) := by decide +kernel
theorem dL_told_509 : decode cL_told 509 = .ok (.aload_n 0, 1) := by decide +kernel
theorem dL_told_510 : decode cL_told 510 = .ok (.aload_n 1, 1) := by decide +kernel
theorem dL_told_511 : decode cL_told 511 = .ok (.ldc2_w 49, 3) := by decide +kernel
theorem dL_told_514 : decode cL_told 514 = .ok (.invokestatic 31, 3) := by decide +kernel
theorem dL_told_517 : decode cL_told 517 = .ok (.aload_n 0, 1) := by decide +kernel
theorem dL_told_518 : decode cL_told 518 = .ok (.aload_n 1, 1) := by decide +kernel
theorem dL_told_519 : decode cL_told 519 = .ok (.bipush 97, 2) := by decide +kernel
theorem dL_told_521 : decode cL_told 521 = .ok (.iload 7, 2) := by decide +kernel
theorem dL_told_523 : decode cL_told 523 = .ok (.iadd, 1) := by decide +kernel
theorem dL_told_524 : decode cL_told 524 = .ok (.invokestatic 21, 3) := by decide +kernel
theorem dL_told_527 : decode cL_told 527 = .ok (.aload_n 0, 1) := by decide +kernel
theorem dL_told_528 : decode cL_told 528 = .ok (.aload_n 1, 1) := by decide +kernel
theorem dL_told_529 : decode cL_told 529 = .ok (.bipush 32, 2) := by decide +kernel
theorem dL_told_531 : decode cL_told 531 = .ok (.invokestatic 21, 3) := by decide +kernel
theorem dL_told_534 : decode cL_told 534 = .ok (.aload 4, 2) := by decide +kernel
theorem dL_told_536 : decode cL_told 536 = .ok (.iconst 5, 1) := by decide +kernel
theorem dL_told_537 : decode cL_told 537 = .ok (.iconst 2, 1) := by decide +kernel
theorem dL_told_538 : decode cL_told 538 = .ok (.iload 7, 2) := by decide +kernel
theorem dL_told_540 : decode cL_told 540 = .ok (.imul, 1) := by decide +kernel
theorem dL_told_541 : decode cL_told 541 = .ok (.iadd, 1) := by decide +kernel
theorem dL_told_542 : decode cL_told 542 = .ok (.iaload, 1) := by decide +kernel
theorem dL_told_543 : decode cL_told 543 = .ok (.iconst 1, 1) := by decide +kernel
theorem dL_told_544 : decode cL_told 544 = .ok (.isub, 1) := by decide +kernel
theorem dL_told_545 : decode cL_told 545 = .ok (.istore 8, 2) := by decide +kernel
theorem dL_told_547 : decode cL_told 547 = .ok (.iload 8, 2) := by decide +kernel
theorem dL_told_549 : decode cL_told 549 = .ok (.ifCond .lt 40, 3) := by decide +kernel
theorem dL_told_552 : decode cL_told 552 = .ok (.aload_n 0, 1) := by decide +kernel
theorem dL_told_553 : decode cL_told 553 = .ok (.aload_n 1, 1) := by decide +kernel
theorem dL_told_554 : decode cL_told 554 = .ok (.aload 4, 2) := by decide +kernel
theorem dL_told_556 : decode cL_told 556 = .ok (.bipush 6, 2) := by decide +kernel
theorem dL_told_558 : decode cL_told 558 = .ok (.iconst 2, 1) := by decide +kernel
theorem dL_told_559 : decode cL_told 559 = .ok (.iload 7, 2) := by decide +kernel
theorem dL_told_561 : decode cL_told 561 = .ok (.imul, 1) := by decide +kernel
theorem dL_told_562 : decode cL_told 562 = .ok (.iadd, 1) := by decide +kernel
theorem dL_told_563 : decode cL_told 563 = .ok (.iaload, 1) := by decide +kernel
theorem dL_told_564 : decode cL_told 564 = .ok (.iload 8, 2) := by decide +kernel
theorem dL_told_566 : decode cL_told 566 = .ok (.ishr, 1) := by decide +kernel
theorem dL_told_567 : decode cL_told 567 = .ok (.iconst 1, 1) := by decide +kernel
theorem dL_told_568 : decode cL_told 568 = .ok (.iand, 1) := by decide +kernel
theorem dL_told_569 : decode cL_told 569 = .ok (.iconst 1, 1) := by decide +kernel
theorem dL_told_570 : decode cL_told 570 = .ok (.if_icmp .ne 8, 3) := by decide +kernel
theorem dL_told_573 : decode cL_told 573 = .ok (.bipush 117, 2) := by decide +kernel
theorem dL_told_575 : decode cL_told 575 = .ok (.goto 5, 3) := by decide +kernel
theorem dL_told_578 : decode cL_told 578 = .ok (.bipush 100, 2) := by decide +kernel
theorem dL_told_580 : decode cL_told 580 = .ok (.invokestatic 21, 3) := by decide +kernel
theorem dL_told_583 : decode cL_told 583 = .ok (.iinc 8 (-1), 3) := by decide +kernel
theorem dL_told_586 : decode cL_told 586 = .ok (.goto (-39), 3) := by decide +kernel
theorem dL_told_589 : decode cL_told 589 = .ok (.iinc 7 1, 3) := by decide +kernel
theorem dL_told_592 : decode cL_told 592 = .ok (.goto (-92), 3) := by decide +kernel
theorem dL_told_595 : decode cL_told 595 = .ok (.aload_n 0, 1) := by decide +kernel
theorem dL_told_596 : decode cL_told 596 = .ok (.aload_n 1, 1) := by decide +kernel
theorem dL_told_597 : decode cL_told 597 = .ok (.aload 4, 2) := by decide +kernel
theorem dL_told_599 : decode cL_told 599 = .ok (.invokestatic 51, 3) := by decide +kernel
theorem dL_told_602 : decode cL_told 602 = .ok (.ireturn, 1) := by decide +kernel
set_option maxRecDepth 20000 in
theorem ggL_below_L_put : GoodIn wsL_below wsL_put := goodIn_r _ [4, 5, 6, 3, 7, 8, 9, 10, 11, 12, 13, 14, 15, 16, 17, 18, 19, 20, 21, 22, 23, 24, 28, 29, 30, 31, 32, 33, 34, 35, 36, 37, 38, 39, 40, 41] (by decide +kernel) (by decide +kernel)
set_option maxRecDepth 20000 in
theorem gL_below_L_put : GoodIn wsL_below (va_wsS RL 21 yL_put wsL_put) := goodIn_app (goodIn_of _ (by decide +kernel)) ggL_below_L_put
set_option maxRecDepth 20000 in
theorem ggL_below_L_number : GoodIn wsL_below wsL_number := goodIn_r _ [27, 1, 2, 3, 4, 5, 6, 7, 8, 9, 10, 11, 12, 13, 14, 15, 16, 17, 18, 19, 20, 21, 22, 23, 24, 28, 29, 30, 31, 32, 33, 34, 35, 36, 37, 38, 39, 40, 41] (by decide +kernel) (by decide +kernel)
set_option maxRecDepth 20000 in
theorem gL_below_L_number : GoodIn wsL_below (va_wsS RL 46 yL_number wsL_number) := goodIn_app (goodIn_of _ (by decide +kernel)) ggL_below_L_number
theorem dL_below_0 : decode cL_below 0 = .ok (.iload_n 2, 1) := by decide +kernel
theorem dL_below_1 : decode cL_below 1 = .ok (.ifCond .ge 20, 3) := by decide +kernel
theorem dL_below_4 : decode cL_below 4 = .ok (.aload_n 0, 1) := by decide +kernel
theorem dL_below_5 : decode cL_below 5 = .ok (.aload_n 1, 1) := by decide +kernel
theorem dL_below_6 : decode cL_below 6 = .ok (.bipush 45, 2) := by decide +kernel
theorem dL_below_8 : decode cL_below 8 = .ok (.invokestatic 21, 3) := by decide +kernel
theorem dL_below_11 : decode cL_below 11 = .ok (.aload_n 0, 1) := by decide +kernel
theorem dL_below_12 : decode cL_below 12 = .ok (.aload_n 1, 1) := by decide +kernel
theorem dL_below_13 : decode cL_below 13 = .ok (.iload_n 2, 1) := by decide +kernel
theorem dL_below_14 : decode cL_below 14 = .ok (.ineg, 1) := by decide +kernel
theorem dL_below_15 : decode cL_below 15 = .ok (.invokestatic 46, 3) := by decide +kernel
theorem dL_below_18 : decode cL_below 18 = .ok (.goto 9, 3) := by decide +kernel
theorem dL_below_21 : decode cL_below 21 = .ok (.aload_n 0, 1) := by decide +kernel
theorem dL_below_22 : decode cL_below 22 = .ok (.aload_n 1, 1) := by decide +kernel
theorem dL_below_23 : decode cL_below 23 = .ok (.iload_n 2, 1) := by decide +kernel
theorem dL_below_24 : decode cL_below 24 = .ok (.invokestatic 46, 3) := by decide +kernel
theorem dL_below_27 : decode cL_below 27 = .ok (.return_, 1) := by decide +kernel
set_option maxRecDepth 20000 in
theorem ggL_rest_L_say : GoodIn wsL_rest wsL_say := goodIn_r _ [7, 8, 9, 10, 6, 11, 12, 13, 14, 15, 16, 17, 18, 19, 20, 21, 22, 23, 24, 25, 26, 27, 28, 29, 30, 31, 270, 271, 272, 273, 274, 275, 276, 277, 278, 279, 280, 281, 282, 283] (by decide +kernel) (by decide +kernel)
set_option maxRecDepth 20000 in
theorem gL_rest_L_say : GoodIn wsL_rest (va_wsS RL 31 yL_say wsL_say) := goodIn_app (goodIn_of _ (by decide +kernel)) ggL_rest_L_say
set_option maxRecDepth 20000 in
theorem ggL_rest_L_put : GoodIn wsL_rest wsL_put := goodIn_r _ [11, 12, 13, 6, 14, 15, 16, 17, 18, 19, 20, 21, 22, 23, 24, 25, 26, 27, 28, 29, 30, 31, 270, 271, 272, 273, 274, 275, 276, 277, 278, 279, 280, 281, 282, 283] (by decide +kernel) (by decide +kernel)
set_option maxRecDepth 20000 in
theorem gL_rest_L_put : GoodIn wsL_rest (va_wsS RL 21 yL_put wsL_put) := goodIn_app (goodIn_of _ (by decide +kernel)) ggL_rest_L_put
set_option maxRecDepth 20000 in
theorem ggL_rest_L_number : GoodIn wsL_rest wsL_number := goodIn_r _ [34, 9, 10, 6, 11, 12, 13, 14, 15, 16, 17, 18, 19, 20, 21, 22, 23, 24, 25, 26, 27, 28, 29, 30, 31, 270, 271, 272, 273, 274, 275, 276, 277, 278, 279, 280, 281, 282, 283] (by decide +kernel) (by decide +kernel)
set_option maxRecDepth 20000 in
theorem gL_rest_L_number : GoodIn wsL_rest (va_wsS RL 46 yL_number wsL_number) := goodIn_app (goodIn_of _ (by decide +kernel)) ggL_rest_L_number
set_option maxRecDepth 20000 in
theorem ggL_rest_L_said : GoodIn wsL_rest wsL_said := goodIn_r _ [37, 9, 10, 6, 11, 12, 13, 14, 15, 16, 17, 18, 19, 20, 21, 22, 23, 24, 25, 26, 27, 28, 29, 30, 31, 270, 271, 272, 273, 274, 275, 276, 277, 278, 279, 280, 281, 282, 283] (by decide +kernel) (by decide +kernel)
set_option maxRecDepth 20000 in
theorem gL_rest_L_said : GoodIn wsL_rest (va_wsS RL 61 yL_said wsL_said) := goodIn_app (goodIn_of _ (by decide +kernel)) ggL_rest_L_said
set_option maxRecDepth 20000 in
theorem ggL_rest_X11_lab : GoodIn wsL_rest wsX11_lab := goodIn_r _ [41, 20, 42, 43, 44, 45, 46, 47, 48, 49, 50, 51, 52, 18, 53, 54, 55, 56, 57, 58, 59, 60, 61, 62, 63, 64, 65, 66, 67, 68, 69, 70, 71, 72, 73, 74, 75, 76, 77, 78, 79, 80, 81, 82, 83, 84, 24, 85, 31, 86, 87, 88, 89, 90, 91, 92, 93, 94, 95, 96, 97, 98, 99, 100, 101, 102, 103, 104, 105, 106, 107, 108, 109, 110, 111, 112, 113, 114, 115, 116, 117, 118, 119, 120, 121, 122, 123, 124, 125, 126, 127, 128, 129, 130, 131, 132, 133, 134, 135, 136, 137, 138, 139, 140, 141, 142, 143, 144, 145, 146, 147, 148, 149, 150, 151, 152, 153, 154, 155, 156, 157, 158, 159, 160, 161, 162, 163, 164, 165, 166, 167, 168, 169, 170, 171, 172, 173, 174, 175, 176, 177, 178, 179, 180, 181, 182, 183, 184, 185, 186, 187, 188, 189, 190, 191, 192, 193, 194, 195, 196, 197, 198, 199, 200, 201, 202, 203, 204, 205, 206, 207, 208, 209, 210, 211, 212, 213, 214, 215, 216, 217, 218, 219, 220, 221, 222, 223, 224, 225, 226, 227, 228, 229, 230, 231, 232, 233, 234, 235, 236, 237, 238, 239, 240, 241, 242, 243, 244, 245, 246, 247, 248, 249, 250, 251, 252, 253, 254, 255, 256, 257, 258, 259, 260, 261, 262, 263, 264, 265, 266, 267, 268, 269, 270, 271, 272, 273, 274, 275, 276, 277, 278, 279, 280, 281, 282, 283, 284, 285, 286, 287, 288, 289, 290, 291, 292, 293, 294, 295, 296, 297, 298, 299, 300, 301, 302, 303, 304, 305, 306, 307, 308, 309, 310, 311, 312, 313, 314, 315, 316, 317] (by decide +kernel) (by decide +kernel)
set_option maxRecDepth 20000 in
theorem gL_rest_X11_lab : GoodIn wsL_rest (wsV RL 65 RX11 yX11_lab wsX11_lab) := goodIn_app (goodIn_of _ (by decide +kernel)) ggL_rest_X11_lab
theorem dL_rest_0 : decode cL_rest 0 = .ok (.iconst 0, 1) := by decide +kernel
theorem dL_rest_1 : decode cL_rest 1 = .ok (.istore_n 3, 1) := by decide +kernel
theorem dL_rest_2 : decode cL_rest 2 = .ok (.iload_n 3, 1) := by decide +kernel
theorem dL_rest_3 : decode cL_rest 3 = .ok (.aload_n 2, 1) := by decide +kernel
theorem dL_rest_4 : decode cL_rest 4 = .ok (.bipush 9, 2) := by decide +kernel
theorem dL_rest_6 : decode cL_rest 6 = .ok (.iaload, 1) := by decide +kernel
theorem dL_rest_7 : decode cL_rest 7 = .ok (.if_icmp .ge 61, 3) := by decide +kernel
theorem dL_rest_10 : decode cL_rest 10 = .ok (.aload_n 0, 1) := by decide +kernel
theorem dL_rest_11 : decode cL_rest 11 = .ok (.aload_n 1, 1) := by decide +kernel
theorem dL_rest_12 : decode cL_rest 12 = .ok (.ldc2_w 55, 3) := by decide +kernel
theorem dL_rest_15 : decode cL_rest 15 = .ok (.invokestatic 31, 3) := by decide +kernel
theorem dL_rest_18 : decode cL_rest 18 = .ok (.aload_n 0, 1) := by decide +kernel
theorem dL_rest_19 : decode cL_rest 19 = .ok (.aload_n 1, 1) := by decide +kernel
theorem dL_rest_20 : decode cL_rest 20 = .ok (.ldc2_w 57, 3) := by decide +kernel
theorem dL_rest_23 : decode cL_rest 23 = .ok (.invokestatic 31, 3) := by decide +kernel
theorem dL_rest_26 : decode cL_rest 26 = .ok (.aload_n 0, 1) := by decide +kernel
theorem dL_rest_27 : decode cL_rest 27 = .ok (.aload_n 1, 1) := by decide +kernel
theorem dL_rest_28 : decode cL_rest 28 = .ok (.bipush 97, 2) := by decide +kernel
theorem dL_rest_30 : decode cL_rest 30 = .ok (.aload_n 2, 1) := by decide +kernel
theorem dL_rest_31 : decode cL_rest 31 = .ok (.bipush 10, 2) := by decide +kernel
theorem dL_rest_33 : decode cL_rest 33 = .ok (.iconst 2, 1) := by decide +kernel
theorem dL_rest_34 : decode cL_rest 34 = .ok (.iload_n 3, 1) := by decide +kernel
theorem dL_rest_35 : decode cL_rest 35 = .ok (.imul, 1) := by decide +kernel
theorem dL_rest_36 : decode cL_rest 36 = .ok (.iadd, 1) := by decide +kernel
theorem dL_rest_37 : decode cL_rest 37 = .ok (.iaload, 1) := by decide +kernel
theorem dL_rest_38 : decode cL_rest 38 = .ok (.iadd, 1) := by decide +kernel
theorem dL_rest_39 : decode cL_rest 39 = .ok (.invokestatic 21, 3) := by decide +kernel
theorem dL_rest_42 : decode cL_rest 42 = .ok (.aload_n 0, 1) := by decide +kernel
theorem dL_rest_43 : decode cL_rest 43 = .ok (.aload_n 1, 1) := by decide +kernel
theorem dL_rest_44 : decode cL_rest 44 = .ok (.bipush 32, 2) := by decide +kernel
theorem dL_rest_46 : decode cL_rest 46 = .ok (.invokestatic 21, 3) := by decide +kernel
theorem dL_rest_49 : decode cL_rest 49 = .ok (.aload_n 0, 1) := by decide +kernel
theorem dL_rest_50 : decode cL_rest 50 = .ok (.aload_n 1, 1) := by decide +kernel
theorem dL_rest_51 : decode cL_rest 51 = .ok (.aload_n 2, 1) := by decide +kernel
theorem dL_rest_52 : decode cL_rest 52 = .ok (.bipush 11, 2) := by decide +kernel
theorem dL_rest_54 : decode cL_rest 54 = .ok (.iconst 2, 1) := by decide +kernel
theorem dL_rest_55 : decode cL_rest 55 = .ok (.iload_n 3, 1) := by decide +kernel
theorem dL_rest_56 : decode cL_rest 56 = .ok (.imul, 1) := by decide +kernel
theorem dL_rest_57 : decode cL_rest 57 = .ok (.iadd, 1) := by decide +kernel
theorem dL_rest_58 : decode cL_rest 58 = .ok (.iaload, 1) := by decide +kernel
theorem dL_rest_59 : decode cL_rest 59 = .ok (.invokestatic 46, 3) := by decide +kernel
theorem dL_rest_62 : decode cL_rest 62 = .ok (.iinc 3 1, 3) := by decide +kernel
theorem dL_rest_65 : decode cL_rest 65 = .ok (.goto (-63), 3) := by decide +kernel
theorem dL_rest_68 : decode cL_rest 68 = .ok (.iconst 0, 1) := by decide +kernel
theorem dL_rest_69 : decode cL_rest 69 = .ok (.istore_n 3, 1) := by decide +kernel
theorem dL_rest_70 : decode cL_rest 70 = .ok (.iload_n 3, 1) := by decide +kernel
theorem dL_rest_71 : decode cL_rest 71 = .ok (.aload_n 2, 1) := by decide +kernel
theorem dL_rest_72 : decode cL_rest 72 = .ok (.bipush 14, 2) := by decide +kernel
theorem dL_rest_74 : decode cL_rest 74 = .ok (.iaload, 1) := by decide +kernel
theorem dL_rest_75 : decode cL_rest 75 = .ok (.if_icmp .ge 81, 3) := by decide +kernel
theorem dL_rest_78 : decode cL_rest 78 = .ok (.aload_n 0, 1) := by decide +kernel
theorem dL_rest_79 : decode cL_rest 79 = .ok (.aload_n 1, 1) := by decide +kernel
theorem dL_rest_80 : decode cL_rest 80 = .ok (.ldc2_w 59, 3) := by decide +kernel
theorem dL_rest_83 : decode cL_rest 83 = .ok (.invokestatic 31, 3) := by decide +kernel
theorem dL_rest_86 : decode cL_rest 86 = .ok (.aload_n 0, 1) := by decide +kernel
theorem dL_rest_87 : decode cL_rest 87 = .ok (.aload_n 1, 1) := by decide +kernel
theorem dL_rest_88 : decode cL_rest 88 = .ok (.ldc2_w 57, 3) := by decide +kernel
theorem dL_rest_91 : decode cL_rest 91 = .ok (.invokestatic 31, 3) := by decide +kernel
theorem dL_rest_94 : decode cL_rest 94 = .ok (.aload_n 0, 1) := by decide +kernel
theorem dL_rest_95 : decode cL_rest 95 = .ok (.aload_n 1, 1) := by decide +kernel
theorem dL_rest_96 : decode cL_rest 96 = .ok (.bipush 97, 2) := by decide +kernel
theorem dL_rest_98 : decode cL_rest 98 = .ok (.aload_n 2, 1) := by decide +kernel
theorem dL_rest_99 : decode cL_rest 99 = .ok (.bipush 15, 2) := by decide +kernel
theorem dL_rest_101 : decode cL_rest 101 = .ok (.iconst 3, 1) := by decide +kernel
theorem dL_rest_102 : decode cL_rest 102 = .ok (.iload_n 3, 1) := by decide +kernel
theorem dL_rest_103 : decode cL_rest 103 = .ok (.imul, 1) := by decide +kernel
theorem dL_rest_104 : decode cL_rest 104 = .ok (.iadd, 1) := by decide +kernel
theorem dL_rest_105 : decode cL_rest 105 = .ok (.iaload, 1) := by decide +kernel
theorem dL_rest_106 : decode cL_rest 106 = .ok (.iadd, 1) := by decide +kernel
theorem dL_rest_107 : decode cL_rest 107 = .ok (.invokestatic 21, 3) := by decide +kernel
theorem dL_rest_110 : decode cL_rest 110 = .ok (.aload_n 0, 1) := by decide +kernel
theorem dL_rest_111 : decode cL_rest 111 = .ok (.aload_n 1, 1) := by decide +kernel
theorem dL_rest_112 : decode cL_rest 112 = .ok (.bipush 32, 2) := by decide +kernel
theorem dL_rest_114 : decode cL_rest 114 = .ok (.invokestatic 21, 3) := by decide +kernel
theorem dL_rest_117 : decode cL_rest 117 = .ok (.aload_n 0, 1) := by decide +kernel
theorem dL_rest_118 : decode cL_rest 118 = .ok (.aload_n 1, 1) := by decide +kernel
theorem dL_rest_119 : decode cL_rest 119 = .ok (.aload_n 2, 1) := by decide +kernel
theorem dL_rest_120 : decode cL_rest 120 = .ok (.bipush 16, 2) := by decide +kernel
theorem dL_rest_122 : decode cL_rest 122 = .ok (.iconst 3, 1) := by decide +kernel
theorem dL_rest_123 : decode cL_rest 123 = .ok (.iload_n 3, 1) := by decide +kernel
theorem dL_rest_124 : decode cL_rest 124 = .ok (.imul, 1) := by decide +kernel
theorem dL_rest_125 : decode cL_rest 125 = .ok (.iadd, 1) := by decide +kernel
theorem dL_rest_126 : decode cL_rest 126 = .ok (.iaload, 1) := by decide +kernel
theorem dL_rest_127 : decode cL_rest 127 = .ok (.invokestatic 46, 3) := by decide +kernel
theorem dL_rest_130 : decode cL_rest 130 = .ok (.aload_n 0, 1) := by decide +kernel
theorem dL_rest_131 : decode cL_rest 131 = .ok (.aload_n 1, 1) := by decide +kernel
theorem dL_rest_132 : decode cL_rest 132 = .ok (.bipush 32, 2) := by decide +kernel
theorem dL_rest_134 : decode cL_rest 134 = .ok (.invokestatic 21, 3) := by decide +kernel
theorem dL_rest_137 : decode cL_rest 137 = .ok (.aload_n 0, 1) := by decide +kernel
theorem dL_rest_138 : decode cL_rest 138 = .ok (.aload_n 1, 1) := by decide +kernel
theorem dL_rest_139 : decode cL_rest 139 = .ok (.aload_n 2, 1) := by decide +kernel
theorem dL_rest_140 : decode cL_rest 140 = .ok (.bipush 17, 2) := by decide +kernel
theorem dL_rest_142 : decode cL_rest 142 = .ok (.iconst 3, 1) := by decide +kernel
theorem dL_rest_143 : decode cL_rest 143 = .ok (.iload_n 3, 1) := by decide +kernel
theorem dL_rest_144 : decode cL_rest 144 = .ok (.imul, 1) := by decide +kernel
theorem dL_rest_145 : decode cL_rest 145 = .ok (.iadd, 1) := by decide +kernel
theorem dL_rest_146 : decode cL_rest 146 = .ok (.iaload, 1) := by decide +kernel
theorem dL_rest_147 : decode cL_rest 147 = .ok (.invokestatic 46, 3) := by decide +kernel
theorem dL_rest_150 : decode cL_rest 150 = .ok (.iinc 3 1, 3) := by decide +kernel
theorem dL_rest_153 : decode cL_rest 153 = .ok (.goto (-83), 3) := by decide +kernel
theorem dL_rest_156 : decode cL_rest 156 = .ok (.aload_n 0, 1) := by decide +kernel
theorem dL_rest_157 : decode cL_rest 157 = .ok (.aload_n 0, 1) := by decide +kernel
theorem dL_rest_158 : decode cL_rest 158 = .ok (.aload_n 1, 1) := by decide +kernel
theorem dL_rest_159 : decode cL_rest 159 = .ok (.invokestatic 61, 3) := by decide +kernel
theorem dL_rest_162 : decode cL_rest 162 = .ok (.invokevirtual 65, 3) := by decide +kernel
theorem dL_rest_165 : decode cL_rest 165 = .ok (.aload_n 2, 1) := by decide +kernel
theorem dL_rest_166 : decode cL_rest 166 = .ok (.iconst 4, 1) := by decide +kernel
theorem dL_rest_167 : decode cL_rest 167 = .ok (.iaload, 1) := by decide +kernel
theorem dL_rest_168 : decode cL_rest 168 = .ok (.if_icmp .ne 7, 3) := by decide +kernel
theorem dL_rest_171 : decode cL_rest 171 = .ok (.iconst 1, 1) := by decide +kernel
theorem dL_rest_172 : decode cL_rest 172 = .ok (.goto 4, 3) := by decide +kernel
theorem dL_rest_175 : decode cL_rest 175 = .ok (.iconst 0, 1) := by decide +kernel
theorem dL_rest_176 : decode cL_rest 176 = .ok (.ireturn, 1) := by decide +kernel
theorem dL_step_0 : decode cL_step 0 = .ok (.iload_n 1, 1) := by decide +kernel
theorem dL_step_1 : decode cL_step 1 = .ok (.iload_n 0, 1) := by decide +kernel
theorem dL_step_2 : decode cL_step 2 = .ok (.iconst 1, 1) := by decide +kernel
theorem dL_step_3 : decode cL_step 3 = .ok (.isub, 1) := by decide +kernel
theorem dL_step_4 : decode cL_step 4 = .ok (.iload_n 2, 1) := by decide +kernel
theorem dL_step_5 : decode cL_step 5 = .ok (.iload_n 0, 1) := by decide +kernel
theorem dL_step_6 : decode cL_step 6 = .ok (.irem, 1) := by decide +kernel
theorem dL_step_7 : decode cL_step 7 = .ok (.isub, 1) := by decide +kernel
theorem dL_step_8 : decode cL_step 8 = .ok (.ishr, 1) := by decide +kernel
theorem dL_step_9 : decode cL_step 9 = .ok (.iconst 1, 1) := by decide +kernel
theorem dL_step_10 : decode cL_step 10 = .ok (.iand, 1) := by decide +kernel
theorem dL_step_11 : decode cL_step 11 = .ok (.iconst 1, 1) := by decide +kernel
theorem dL_step_12 : decode cL_step 12 = .ok (.if_icmp .ne 7, 3) := by decide +kernel
theorem dL_step_15 : decode cL_step 15 = .ok (.iconst 1, 1) := by decide +kernel
theorem dL_step_16 : decode cL_step 16 = .ok (.goto 4, 3) := by decide +kernel
theorem dL_step_19 : decode cL_step 19 = .ok (.iconst (-1), 1) := by decide +kernel
theorem dL_step_20 : decode cL_step 20 = .ok (.ireturn, 1) := by decide +kernel
set_option maxRecDepth 20000 in
theorem ggL_energy_L_step : GoodIn wsL_energy wsL_step := goodIn_r _ [4] (by decide +kernel) (by decide +kernel)
set_option maxRecDepth 20000 in
theorem gL_energy_L_step : GoodIn wsL_energy (va_wsS RL 73 yL_step wsL_step) := goodIn_app (goodIn_of _ (by decide +kernel)) ggL_energy_L_step
theorem dL_energy_0 : decode cL_energy 0 = .ok (.iconst 0, 1) := by decide +kernel
theorem dL_energy_1 : decode cL_energy 1 = .ok (.istore_n 3, 1) := by decide +kernel
theorem dL_energy_2 : decode cL_energy 2 = .ok (.iconst 1, 1) := by decide +kernel
theorem dL_energy_3 : decode cL_energy 3 = .ok (.istore 4, 2) := by decide +kernel
theorem dL_energy_5 : decode cL_energy 5 = .ok (.iload 4, 2) := by decide +kernel
theorem dL_energy_7 : decode cL_energy 7 = .ok (.iconst 4, 1) := by decide +kernel
theorem dL_energy_8 : decode cL_energy 8 = .ok (.if_icmp .ge 63, 3) := by decide +kernel
theorem dL_energy_11 : decode cL_energy 11 = .ok (.iconst 0, 1) := by decide +kernel
theorem dL_energy_12 : decode cL_energy 12 = .ok (.istore 5, 2) := by decide +kernel
theorem dL_energy_14 : decode cL_energy 14 = .ok (.iload 5, 2) := by decide +kernel
theorem dL_energy_16 : decode cL_energy 16 = .ok (.iload_n 1, 1) := by decide +kernel
theorem dL_energy_17 : decode cL_energy 17 = .ok (.if_icmp .ge 48, 3) := by decide +kernel
theorem dL_energy_20 : decode cL_energy 20 = .ok (.iload_n 3, 1) := by decide +kernel
theorem dL_energy_21 : decode cL_energy 21 = .ok (.iload_n 1, 1) := by decide +kernel
theorem dL_energy_22 : decode cL_energy 22 = .ok (.iload_n 2, 1) := by decide +kernel
theorem dL_energy_23 : decode cL_energy 23 = .ok (.iload 5, 2) := by decide +kernel
theorem dL_energy_25 : decode cL_energy 25 = .ok (.invokestatic 73, 3) := by decide +kernel
theorem dL_energy_28 : decode cL_energy 28 = .ok (.iload_n 1, 1) := by decide +kernel
theorem dL_energy_29 : decode cL_energy 29 = .ok (.iload_n 2, 1) := by decide +kernel
theorem dL_energy_30 : decode cL_energy 30 = .ok (.iload 5, 2) := by decide +kernel
theorem dL_energy_32 : decode cL_energy 32 = .ok (.iload 4, 2) := by decide +kernel
theorem dL_energy_34 : decode cL_energy 34 = .ok (.iadd, 1) := by decide +kernel
theorem dL_energy_35 : decode cL_energy 35 = .ok (.invokestatic 73, 3) := by decide +kernel
theorem dL_energy_38 : decode cL_energy 38 = .ok (.if_icmp .ne 13, 3) := by decide +kernel
theorem dL_energy_41 : decode cL_energy 41 = .ok (.aload_n 0, 1) := by decide +kernel
theorem dL_energy_42 : decode cL_energy 42 = .ok (.iload 4, 2) := by decide +kernel
theorem dL_energy_44 : decode cL_energy 44 = .ok (.iconst 1, 1) := by decide +kernel
theorem dL_energy_45 : decode cL_energy 45 = .ok (.isub, 1) := by decide +kernel
theorem dL_energy_46 : decode cL_energy 46 = .ok (.iaload, 1) := by decide +kernel
theorem dL_energy_47 : decode cL_energy 47 = .ok (.ineg, 1) := by decide +kernel
theorem dL_energy_48 : decode cL_energy 48 = .ok (.goto 9, 3) := by decide +kernel
theorem dL_energy_51 : decode cL_energy 51 = .ok (.aload_n 0, 1) := by decide +kernel
theorem dL_energy_52 : decode cL_energy 52 = .ok (.iload 4, 2) := by decide +kernel
theorem dL_energy_54 : decode cL_energy 54 = .ok (.iconst 1, 1) := by decide +kernel
theorem dL_energy_55 : decode cL_energy 55 = .ok (.isub, 1) := by decide +kernel
theorem dL_energy_56 : decode cL_energy 56 = .ok (.iaload, 1) := by decide +kernel
theorem dL_energy_57 : decode cL_energy 57 = .ok (.iadd, 1) := by decide +kernel
theorem dL_energy_58 : decode cL_energy 58 = .ok (.istore_n 3, 1) := by decide +kernel
theorem dL_energy_59 : decode cL_energy 59 = .ok (.iinc 5 1, 3) := by decide +kernel
theorem dL_energy_62 : decode cL_energy 62 = .ok (.goto (-48), 3) := by decide +kernel
theorem dL_energy_65 : decode cL_energy 65 = .ok (.iinc 4 1, 3) := by decide +kernel
theorem dL_energy_68 : decode cL_energy 68 = .ok (.goto (-63), 3) := by decide +kernel
theorem dL_energy_71 : decode cL_energy 71 = .ok (.iload_n 3, 1) := by decide +kernel
theorem dL_energy_72 : decode cL_energy 72 = .ok (.ireturn, 1) := by decide +kernel
set_option maxRecDepth 20000 in
theorem ggL_look_L_step : GoodIn wsL_look wsL_step := goodIn_r _ [4] (by decide +kernel) (by decide +kernel)
set_option maxRecDepth 20000 in
theorem gL_look_L_step : GoodIn wsL_look (va_wsS RL 73 yL_step wsL_step) := goodIn_app (goodIn_of _ (by decide +kernel)) ggL_look_L_step
theorem dL_look_0 : decode cL_look 0 = .ok (.iconst 0, 1) := by decide +kernel
theorem dL_look_1 : decode cL_look 1 = .ok (.istore 5, 2) := by decide +kernel
theorem dL_look_3 : decode cL_look 3 = .ok (.iconst 0, 1) := by decide +kernel
theorem dL_look_4 : decode cL_look 4 = .ok (.istore 6, 2) := by decide +kernel
theorem dL_look_6 : decode cL_look 6 = .ok (.iload 6, 2) := by decide +kernel
theorem dL_look_8 : decode cL_look 8 = .ok (.iload_n 0, 1) := by decide +kernel
theorem dL_look_9 : decode cL_look 9 = .ok (.if_icmp .ge 68, 3) := by decide +kernel
theorem dL_look_12 : decode cL_look 12 = .ok (.iload 4, 2) := by decide +kernel
theorem dL_look_14 : decode cL_look 14 = .ok (.ifCond .eq 20, 3) := by decide +kernel
theorem dL_look_17 : decode cL_look 17 = .ok (.iload_n 0, 1) := by decide +kernel
theorem dL_look_18 : decode cL_look 18 = .ok (.iload_n 1, 1) := by decide +kernel
theorem dL_look_19 : decode cL_look 19 = .ok (.iload_n 2, 1) := by decide +kernel
theorem dL_look_20 : decode cL_look 20 = .ok (.iload_n 0, 1) := by decide +kernel
theorem dL_look_21 : decode cL_look 21 = .ok (.iadd, 1) := by decide +kernel
theorem dL_look_22 : decode cL_look 22 = .ok (.iconst 1, 1) := by decide +kernel
theorem dL_look_23 : decode cL_look 23 = .ok (.isub, 1) := by decide +kernel
theorem dL_look_24 : decode cL_look 24 = .ok (.iload 6, 2) := by decide +kernel
theorem dL_look_26 : decode cL_look 26 = .ok (.isub, 1) := by decide +kernel
theorem dL_look_27 : decode cL_look 27 = .ok (.invokestatic 73, 3) := by decide +kernel
theorem dL_look_30 : decode cL_look 30 = .ok (.ineg, 1) := by decide +kernel
theorem dL_look_31 : decode cL_look 31 = .ok (.goto 12, 3) := by decide +kernel
theorem dL_look_34 : decode cL_look 34 = .ok (.iload_n 0, 1) := by decide +kernel
theorem dL_look_35 : decode cL_look 35 = .ok (.iload_n 1, 1) := by decide +kernel
theorem dL_look_36 : decode cL_look 36 = .ok (.iload_n 2, 1) := by decide +kernel
theorem dL_look_37 : decode cL_look 37 = .ok (.iload 6, 2) := by decide +kernel
theorem dL_look_39 : decode cL_look 39 = .ok (.iadd, 1) := by decide +kernel
theorem dL_look_40 : decode cL_look 40 = .ok (.invokestatic 73, 3) := by decide +kernel
theorem dL_look_43 : decode cL_look 43 = .ok (.istore 7, 2) := by decide +kernel
theorem dL_look_45 : decode cL_look 45 = .ok (.iload_n 3, 1) := by decide +kernel
theorem dL_look_46 : decode cL_look 46 = .ok (.ifCond .eq 8, 3) := by decide +kernel
theorem dL_look_49 : decode cL_look 49 = .ok (.iload 7, 2) := by decide +kernel
theorem dL_look_51 : decode cL_look 51 = .ok (.ineg, 1) := by decide +kernel
theorem dL_look_52 : decode cL_look 52 = .ok (.istore 7, 2) := by decide +kernel
theorem dL_look_54 : decode cL_look 54 = .ok (.iconst 2, 1) := by decide +kernel
theorem dL_look_55 : decode cL_look 55 = .ok (.iload 5, 2) := by decide +kernel
theorem dL_look_57 : decode cL_look 57 = .ok (.imul, 1) := by decide +kernel
theorem dL_look_58 : decode cL_look 58 = .ok (.iload 7, 2) := by decide +kernel
theorem dL_look_60 : decode cL_look 60 = .ok (.ifCond .le 7, 3) := by decide +kernel
theorem dL_look_63 : decode cL_look 63 = .ok (.iconst 1, 1) := by decide +kernel
theorem dL_look_64 : decode cL_look 64 = .ok (.goto 4, 3) := by decide +kernel
theorem dL_look_67 : decode cL_look 67 = .ok (.iconst 0, 1) := by decide +kernel
theorem dL_look_68 : decode cL_look 68 = .ok (.iadd, 1) := by decide +kernel
theorem dL_look_69 : decode cL_look 69 = .ok (.istore 5, 2) := by decide +kernel
theorem dL_look_71 : decode cL_look 71 = .ok (.iinc 6 1, 3) := by decide +kernel
theorem dL_look_74 : decode cL_look 74 = .ok (.goto (-68), 3) := by decide +kernel
theorem dL_look_77 : decode cL_look 77 = .ok (.iload 5, 2) := by decide +kernel
theorem dL_look_79 : decode cL_look 79 = .ok (.ireturn, 1) := by decide +kernel
theorem dL_slipped_0 : decode cL_slipped 0 = .ok (.iload_n 1, 1) := by decide +kernel
theorem dL_slipped_1 : decode cL_slipped 1 = .ok (.iconst 1, 1) := by decide +kernel
theorem dL_slipped_2 : decode cL_slipped 2 = .ok (.iload_n 0, 1) := by decide +kernel
theorem dL_slipped_3 : decode cL_slipped 3 = .ok (.iconst 1, 1) := by decide +kernel
theorem dL_slipped_4 : decode cL_slipped 4 = .ok (.isub, 1) := by decide +kernel
theorem dL_slipped_5 : decode cL_slipped 5 = .ok (.iload_n 2, 1) := by decide +kernel
theorem dL_slipped_6 : decode cL_slipped 6 = .ok (.isub, 1) := by decide +kernel
theorem dL_slipped_7 : decode cL_slipped 7 = .ok (.ishl, 1) := by decide +kernel
theorem dL_slipped_8 : decode cL_slipped 8 = .ok (.ixor, 1) := by decide +kernel
theorem dL_slipped_9 : decode cL_slipped 9 = .ok (.ireturn, 1) := by decide +kernel
set_option maxRecDepth 20000 in
theorem ggL_act_L_slipped : GoodIn wsL_act wsL_slipped := goodIn_r _ [4] (by decide +kernel) (by decide +kernel)
set_option maxRecDepth 20000 in
theorem gL_act_L_slipped : GoodIn wsL_act (va_wsS RL 83 yL_slipped wsL_slipped) := goodIn_app (goodIn_of _ (by decide +kernel)) ggL_act_L_slipped
set_option maxRecDepth 20000 in
theorem ggL_act_X11_slip : GoodIn wsL_act wsX11_slip := goodIn_r _ [9, 10, 11, 12, 13, 8, 14, 15, 16, 17, 18, 19, 20, 21, 22, 23, 24, 25, 26, 27, 28, 29, 30, 31, 32, 33, 34, 35, 36, 37, 38, 39, 40, 41, 42, 43, 44, 45, 46, 47, 48, 49, 50, 51, 52, 53, 54, 55, 56, 57, 58, 59, 60, 61, 62, 63, 64, 100, 101, 102, 103, 104, 105, 106, 107, 108, 109, 110, 111, 112, 113, 114, 115, 116, 117, 118] (by decide +kernel) (by decide +kernel)
set_option maxRecDepth 20000 in
theorem gL_act_X11_slip : GoodIn wsL_act (wsV RL 86 RX11 yX11_slip wsX11_slip) := goodIn_app (goodIn_of _ (by decide +kernel)) ggL_act_X11_slip
set_option maxRecDepth 20000 in
theorem ggL_act_L_look : GoodIn wsL_act wsL_look := goodIn_r _ [67, 68, 69, 3, 70] (by decide +kernel) (by decide +kernel)
set_option maxRecDepth 20000 in
theorem gL_act_L_look : GoodIn wsL_act (va_wsS RL 89 yL_look wsL_look) := goodIn_app (goodIn_of _ (by decide +kernel)) ggL_act_L_look
set_option maxRecDepth 20000 in
theorem ggL_act_X11_turn : GoodIn wsL_act wsX11_turn := goodIn_r _ [74, 10, 11, 12, 13, 8, 14, 15, 16, 17, 18, 19, 20, 21, 22, 23, 24, 25, 26, 27, 28, 29, 30, 31, 32, 75, 76, 35, 77, 37, 38, 39, 40, 41, 42, 43, 44, 45, 46, 47, 48, 49, 50, 51, 52, 53, 54, 55, 56, 57, 58, 59, 60, 61, 62, 63, 64, 100, 101, 102, 103, 104, 105, 106, 107, 108, 109, 110, 111, 112, 113, 114, 115, 116, 117, 118] (by decide +kernel) (by decide +kernel)
set_option maxRecDepth 20000 in
theorem gL_act_X11_turn : GoodIn wsL_act (wsV RL 93 RX11 yX11_turn wsX11_turn) := goodIn_app (goodIn_of _ (by decide +kernel)) ggL_act_X11_turn
set_option maxRecDepth 20000 in
theorem ggL_act_X11_twin : GoodIn wsL_act wsX11_twin := goodIn_r _ [81, 10, 11, 12, 13, 8, 14, 15, 16, 17, 18, 19, 20, 21, 22, 23, 24, 25, 26, 27, 28, 29, 30, 31, 32, 82, 83, 35, 84, 85, 86, 87, 37, 38, 39, 40, 41, 42, 43, 44, 45, 46, 47, 48, 49, 50, 51, 52, 53, 54, 55, 56, 57, 58, 59, 60, 61, 62, 63, 64, 100, 101, 102, 103, 104, 105, 106, 107, 108, 109, 110, 111, 112, 113, 114, 115, 116, 117, 118] (by decide +kernel) (by decide +kernel)
set_option maxRecDepth 20000 in
theorem gL_act_X11_twin : GoodIn wsL_act (wsV RL 96 RX11 yX11_twin wsX11_twin) := goodIn_app (goodIn_of _ (by decide +kernel)) ggL_act_X11_twin
set_option maxRecDepth 20000 in
theorem ggL_act_X11_grow : GoodIn wsL_act wsX11_grow := goodIn_r _ [91, 10, 11, 12, 13, 8, 14, 15, 16, 17, 18, 19, 20, 21, 22, 23, 24, 25, 26, 27, 28, 29, 30, 31, 32, 37, 38, 39, 40, 41, 42, 43, 44, 45, 46, 47, 48, 49, 50, 51, 52, 53, 54, 55, 56, 57, 58, 59, 60, 61, 62, 63, 64, 100, 101, 102, 103, 104, 105, 106, 107, 108, 109, 110, 111, 112, 113, 114, 115, 116, 117, 118] (by decide +kernel) (by decide +kernel)
set_option maxRecDepth 20000 in
theorem gL_act_X11_grow : GoodIn wsL_act (wsV RL 99 RX11 yX11_grow wsX11_grow) := goodIn_app (goodIn_of _ (by decide +kernel)) ggL_act_X11_grow
set_option maxRecDepth 20000 in
theorem ggL_act_X11_trouble : GoodIn wsL_act wsX11_trouble := goodIn_r _ [95, 19, 100, 101, 102, 103, 104, 105, 106, 107, 108, 109, 110, 111] (by decide +kernel) (by decide +kernel)
set_option maxRecDepth 20000 in
theorem gL_act_X11_trouble : GoodIn wsL_act (wsV RL 103 RX11 yX11_trouble wsX11_trouble) := goodIn_app (goodIn_of _ (by decide +kernel)) ggL_act_X11_trouble
set_option maxRecDepth 20000 in
theorem ggL_act_X11_cut : GoodIn wsL_act wsX11_cut := goodIn_r _ [99, 10, 11, 12, 13, 8, 14, 15, 16, 17, 18, 19, 20, 21, 22, 23, 24, 25, 26, 27, 28, 29, 30, 31, 32, 37, 38, 39, 40, 41, 42, 43, 44, 45, 46, 47, 48, 49, 50, 51, 52, 53, 54, 55, 56, 57, 58, 59, 60, 61, 62, 63, 64, 100, 101, 102, 103, 104, 105, 106, 107, 108, 109, 110, 111, 112, 113, 114, 115, 116, 117, 118] (by decide +kernel) (by decide +kernel)
set_option maxRecDepth 20000 in
theorem gL_act_X11_cut : GoodIn wsL_act (wsV RL 107 RX11 yX11_cut wsX11_cut) := goodIn_app (goodIn_of _ (by decide +kernel)) ggL_act_X11_cut
theorem dL_act_0 : decode cL_act 0 = .ok (.iload_n 3, 1) := by decide +kernel
theorem dL_act_1 : decode cL_act 1 = .ok (.iconst 3, 1) := by decide +kernel
theorem dL_act_2 : decode cL_act 2 = .ok (.ishr, 1) := by decide +kernel
theorem dL_act_3 : decode cL_act 3 = .ok (.iconst 1, 1) := by decide +kernel
theorem dL_act_4 : decode cL_act 4 = .ok (.iand, 1) := by decide +kernel
theorem dL_act_5 : decode cL_act 5 = .ok (.aload_n 1, 1) := by decide +kernel
theorem dL_act_6 : decode cL_act 6 = .ok (.iconst 4, 1) := by decide +kernel
theorem dL_act_7 : decode cL_act 7 = .ok (.iaload, 1) := by decide +kernel
theorem dL_act_8 : decode cL_act 8 = .ok (.irem, 1) := by decide +kernel
theorem dL_act_9 : decode cL_act 9 = .ok (.istore 4, 2) := by decide +kernel
theorem dL_act_11 : decode cL_act 11 = .ok (.aload_n 2, 1) := by decide +kernel
theorem dL_act_12 : decode cL_act 12 = .ok (.iload 4, 2) := by decide +kernel
theorem dL_act_14 : decode cL_act 14 = .ok (.iaload, 1) := by decide +kernel
theorem dL_act_15 : decode cL_act 15 = .ok (.istore 5, 2) := by decide +kernel
theorem dL_act_17 : decode cL_act 17 = .ok (.iload_n 3, 1) := by decide +kernel
theorem dL_act_18 : decode cL_act 18 = .ok (.bipush 7, 2) := by decide +kernel
theorem dL_act_20 : decode cL_act 20 = .ok (.iand, 1) := by decide +kernel
theorem dL_act_21 : decode cL_act 21 = .ok (.istore 6, 2) := by decide +kernel
theorem dL_act_23 : decode cL_act 23 = .ok (.iload 6, 2) := by decide +kernel
theorem dL_act_25 : decode cL_act 25 = .ok (.iconst 3, 1) := by decide +kernel
theorem dL_act_26 : decode cL_act 26 = .ok (.if_icmp .ge 56, 3) := by decide +kernel
theorem dL_act_29 : decode cL_act 29 = .ok (.iload_n 3, 1) := by decide +kernel
theorem dL_act_30 : decode cL_act 30 = .ok (.iconst 4, 1) := by decide +kernel
theorem dL_act_31 : decode cL_act 31 = .ok (.ishr, 1) := by decide +kernel
theorem dL_act_32 : decode cL_act 32 = .ok (.bipush 15, 2) := by decide +kernel
theorem dL_act_34 : decode cL_act 34 = .ok (.iand, 1) := by decide +kernel
theorem dL_act_35 : decode cL_act 35 = .ok (.iload 5, 2) := by decide +kernel
theorem dL_act_37 : decode cL_act 37 = .ok (.irem, 1) := by decide +kernel
theorem dL_act_38 : decode cL_act 38 = .ok (.istore 7, 2) := by decide +kernel
theorem dL_act_40 : decode cL_act 40 = .ok (.aload_n 2, 1) := by decide +kernel
theorem dL_act_41 : decode cL_act 41 = .ok (.iconst 2, 1) := by decide +kernel
theorem dL_act_42 : decode cL_act 42 = .ok (.iload 4, 2) := by decide +kernel
theorem dL_act_44 : decode cL_act 44 = .ok (.iadd, 1) := by decide +kernel
theorem dL_act_45 : decode cL_act 45 = .ok (.iload 5, 2) := by decide +kernel
theorem dL_act_47 : decode cL_act 47 = .ok (.aload_n 2, 1) := by decide +kernel
theorem dL_act_48 : decode cL_act 48 = .ok (.iconst 2, 1) := by decide +kernel
theorem dL_act_49 : decode cL_act 49 = .ok (.iload 4, 2) := by decide +kernel
theorem dL_act_51 : decode cL_act 51 = .ok (.iadd, 1) := by decide +kernel
theorem dL_act_52 : decode cL_act 52 = .ok (.iaload, 1) := by decide +kernel
theorem dL_act_53 : decode cL_act 53 = .ok (.iload 7, 2) := by decide +kernel
theorem dL_act_55 : decode cL_act 55 = .ok (.invokestatic 83, 3) := by decide +kernel
theorem dL_act_58 : decode cL_act 58 = .ok (.iastore, 1) := by decide +kernel
theorem dL_act_59 : decode cL_act 59 = .ok (.aload_n 0, 1) := by decide +kernel
theorem dL_act_60 : decode cL_act 60 = .ok (.iload 4, 2) := by decide +kernel
theorem dL_act_62 : decode cL_act 62 = .ok (.iload 7, 2) := by decide +kernel
theorem dL_act_64 : decode cL_act 64 = .ok (.invokevirtual 86, 3) := by decide +kernel
theorem dL_act_67 : decode cL_act 67 = .ok (.aload_n 2, 1) := by decide +kernel
theorem dL_act_68 : decode cL_act 68 = .ok (.iconst 2, 1) := by decide +kernel
theorem dL_act_69 : decode cL_act 69 = .ok (.iload 4, 2) := by decide +kernel
theorem dL_act_71 : decode cL_act 71 = .ok (.iadd, 1) := by decide +kernel
theorem dL_act_72 : decode cL_act 72 = .ok (.iaload, 1) := by decide +kernel
theorem dL_act_73 : decode cL_act 73 = .ok (.if_icmp .ne 7, 3) := by decide +kernel
theorem dL_act_76 : decode cL_act 76 = .ok (.iconst 1, 1) := by decide +kernel
theorem dL_act_77 : decode cL_act 77 = .ok (.goto 4, 3) := by decide +kernel
theorem dL_act_80 : decode cL_act 80 = .ok (.iconst (-1), 1) := by decide +kernel
theorem dL_act_81 : decode cL_act 81 = .ok (.ireturn, 1) := by decide +kernel
theorem dL_act_82 : decode cL_act 82 = .ok (.iload 6, 2) := by decide +kernel
theorem dL_act_84 : decode cL_act 84 = .ok (.iconst 3, 1) := by decide +kernel
theorem dL_act_85 : decode cL_act 85 = .ok (.if_icmp .ne 44, 3) := by decide +kernel
theorem dL_act_88 : decode cL_act 88 = .ok (.aload_n 2, 1) := by decide +kernel
theorem dL_act_89 : decode cL_act 89 = .ok (.iconst 2, 1) := by decide +kernel
theorem dL_act_90 : decode cL_act 90 = .ok (.iload 4, 2) := by decide +kernel
theorem dL_act_92 : decode cL_act 92 = .ok (.iadd, 1) := by decide +kernel
theorem dL_act_93 : decode cL_act 93 = .ok (.iload 5, 2) := by decide +kernel
theorem dL_act_95 : decode cL_act 95 = .ok (.aload_n 2, 1) := by decide +kernel
theorem dL_act_96 : decode cL_act 96 = .ok (.iconst 2, 1) := by decide +kernel
theorem dL_act_97 : decode cL_act 97 = .ok (.iload 4, 2) := by decide +kernel
theorem dL_act_99 : decode cL_act 99 = .ok (.iadd, 1) := by decide +kernel
theorem dL_act_100 : decode cL_act 100 = .ok (.iaload, 1) := by decide +kernel
theorem dL_act_101 : decode cL_act 101 = .ok (.iconst 1, 1) := by decide +kernel
theorem dL_act_102 : decode cL_act 102 = .ok (.iconst 0, 1) := by decide +kernel
theorem dL_act_103 : decode cL_act 103 = .ok (.iconst 0, 1) := by decide +kernel
theorem dL_act_104 : decode cL_act 104 = .ok (.invokestatic 89, 3) := by decide +kernel
theorem dL_act_107 : decode cL_act 107 = .ok (.iastore, 1) := by decide +kernel
theorem dL_act_108 : decode cL_act 108 = .ok (.aload_n 0, 1) := by decide +kernel
theorem dL_act_109 : decode cL_act 109 = .ok (.iload 4, 2) := by decide +kernel
theorem dL_act_111 : decode cL_act 111 = .ok (.invokevirtual 93, 3) := by decide +kernel
theorem dL_act_114 : decode cL_act 114 = .ok (.aload_n 2, 1) := by decide +kernel
theorem dL_act_115 : decode cL_act 115 = .ok (.iconst 2, 1) := by decide +kernel
theorem dL_act_116 : decode cL_act 116 = .ok (.iload 4, 2) := by decide +kernel
theorem dL_act_118 : decode cL_act 118 = .ok (.iadd, 1) := by decide +kernel
theorem dL_act_119 : decode cL_act 119 = .ok (.iaload, 1) := by decide +kernel
theorem dL_act_120 : decode cL_act 120 = .ok (.if_icmp .ne 7, 3) := by decide +kernel
theorem dL_act_123 : decode cL_act 123 = .ok (.iconst 1, 1) := by decide +kernel
theorem dL_act_124 : decode cL_act 124 = .ok (.goto 4, 3) := by decide +kernel
theorem dL_act_127 : decode cL_act 127 = .ok (.iconst (-1), 1) := by decide +kernel
theorem dL_act_128 : decode cL_act 128 = .ok (.ireturn, 1) := by decide +kernel
theorem dL_act_129 : decode cL_act 129 = .ok (.iload 6, 2) := by decide +kernel
theorem dL_act_131 : decode cL_act 131 = .ok (.iconst 4, 1) := by decide +kernel
theorem dL_act_132 : decode cL_act 132 = .ok (.if_icmp .ne 44, 3) := by decide +kernel
theorem dL_act_135 : decode cL_act 135 = .ok (.aload_n 2, 1) := by decide +kernel
theorem dL_act_136 : decode cL_act 136 = .ok (.iconst 2, 1) := by decide +kernel
theorem dL_act_137 : decode cL_act 137 = .ok (.iload 4, 2) := by decide +kernel
theorem dL_act_139 : decode cL_act 139 = .ok (.iadd, 1) := by decide +kernel
theorem dL_act_140 : decode cL_act 140 = .ok (.iload 5, 2) := by decide +kernel
theorem dL_act_142 : decode cL_act 142 = .ok (.aload_n 2, 1) := by decide +kernel
theorem dL_act_143 : decode cL_act 143 = .ok (.iconst 2, 1) := by decide +kernel
theorem dL_act_144 : decode cL_act 144 = .ok (.iload 4, 2) := by decide +kernel
theorem dL_act_146 : decode cL_act 146 = .ok (.iadd, 1) := by decide +kernel
theorem dL_act_147 : decode cL_act 147 = .ok (.iaload, 1) := by decide +kernel
theorem dL_act_148 : decode cL_act 148 = .ok (.iconst 0, 1) := by decide +kernel
theorem dL_act_149 : decode cL_act 149 = .ok (.iconst 1, 1) := by decide +kernel
theorem dL_act_150 : decode cL_act 150 = .ok (.iconst 0, 1) := by decide +kernel
theorem dL_act_151 : decode cL_act 151 = .ok (.invokestatic 89, 3) := by decide +kernel
theorem dL_act_154 : decode cL_act 154 = .ok (.iastore, 1) := by decide +kernel
theorem dL_act_155 : decode cL_act 155 = .ok (.aload_n 0, 1) := by decide +kernel
theorem dL_act_156 : decode cL_act 156 = .ok (.iload 4, 2) := by decide +kernel
theorem dL_act_158 : decode cL_act 158 = .ok (.invokevirtual 96, 3) := by decide +kernel
theorem dL_act_161 : decode cL_act 161 = .ok (.aload_n 2, 1) := by decide +kernel
theorem dL_act_162 : decode cL_act 162 = .ok (.iconst 2, 1) := by decide +kernel
theorem dL_act_163 : decode cL_act 163 = .ok (.iload 4, 2) := by decide +kernel
theorem dL_act_165 : decode cL_act 165 = .ok (.iadd, 1) := by decide +kernel
theorem dL_act_166 : decode cL_act 166 = .ok (.iaload, 1) := by decide +kernel
theorem dL_act_167 : decode cL_act 167 = .ok (.if_icmp .ne 7, 3) := by decide +kernel
theorem dL_act_170 : decode cL_act 170 = .ok (.iconst 1, 1) := by decide +kernel
theorem dL_act_171 : decode cL_act 171 = .ok (.goto 4, 3) := by decide +kernel
theorem dL_act_174 : decode cL_act 174 = .ok (.iconst (-1), 1) := by decide +kernel
theorem dL_act_175 : decode cL_act 175 = .ok (.ireturn, 1) := by decide +kernel
theorem dL_act_176 : decode cL_act 176 = .ok (.iload 6, 2) := by decide +kernel
theorem dL_act_178 : decode cL_act 178 = .ok (.iconst 5, 1) := by decide +kernel
theorem dL_act_179 : decode cL_act 179 = .ok (.if_icmp .ne 105, 3) := by decide +kernel
theorem dL_act_182 : decode cL_act 182 = .ok (.iload 5, 2) := by decide +kernel
theorem dL_act_184 : decode cL_act 184 = .ok (.bipush 12, 2) := by decide +kernel
theorem dL_act_186 : decode cL_act 186 = .ok (.if_icmp .ne 28, 3) := by decide +kernel
theorem dL_act_189 : decode cL_act 189 = .ok (.aload_n 0, 1) := by decide +kernel
theorem dL_act_190 : decode cL_act 190 = .ok (.iload 4, 2) := by decide +kernel
theorem dL_act_192 : decode cL_act 192 = .ok (.iconst 1, 1) := by decide +kernel
theorem dL_act_193 : decode cL_act 193 = .ok (.invokevirtual 99, 3) := by decide +kernel
theorem dL_act_196 : decode cL_act 196 = .ok (.iconst (-1), 1) := by decide +kernel
theorem dL_act_197 : decode cL_act 197 = .ok (.if_icmp .ne 11, 3) := by decide +kernel
theorem dL_act_200 : decode cL_act 200 = .ok (.aload_n 0, 1) := by decide +kernel
theorem dL_act_201 : decode cL_act 201 = .ok (.invokevirtual 103, 3) := by decide +kernel
theorem dL_act_204 : decode cL_act 204 = .ok (.iconst 3, 1) := by decide +kernel
theorem dL_act_205 : decode cL_act 205 = .ok (.if_icmp .eq 7, 3) := by decide +kernel
theorem dL_act_208 : decode cL_act 208 = .ok (.iconst (-1), 1) := by decide +kernel
theorem dL_act_209 : decode cL_act 209 = .ok (.goto 4, 3) := by decide +kernel
theorem dL_act_212 : decode cL_act 212 = .ok (.iconst 0, 1) := by decide +kernel
theorem dL_act_213 : decode cL_act 213 = .ok (.ireturn, 1) := by decide +kernel
theorem dL_act_214 : decode cL_act 214 = .ok (.iload_n 3, 1) := by decide +kernel
theorem dL_act_215 : decode cL_act 215 = .ok (.iconst 4, 1) := by decide +kernel
theorem dL_act_216 : decode cL_act 216 = .ok (.ishr, 1) := by decide +kernel
theorem dL_act_217 : decode cL_act 217 = .ok (.iconst 1, 1) := by decide +kernel
theorem dL_act_218 : decode cL_act 218 = .ok (.iand, 1) := by decide +kernel
theorem dL_act_219 : decode cL_act 219 = .ok (.iconst 1, 1) := by decide +kernel
theorem dL_act_220 : decode cL_act 220 = .ok (.if_icmp .ne 7, 3) := by decide +kernel
theorem dL_act_223 : decode cL_act 223 = .ok (.iconst 1, 1) := by decide +kernel
theorem dL_act_224 : decode cL_act 224 = .ok (.goto 4, 3) := by decide +kernel
theorem dL_act_227 : decode cL_act 227 = .ok (.iconst 0, 1) := by decide +kernel
theorem dL_act_228 : decode cL_act 228 = .ok (.istore 7, 2) := by decide +kernel
theorem dL_act_230 : decode cL_act 230 = .ok (.aload_n 2, 1) := by decide +kernel
theorem dL_act_231 : decode cL_act 231 = .ok (.iload 4, 2) := by decide +kernel
theorem dL_act_233 : decode cL_act 233 = .ok (.dup2, 1) := by decide +kernel
theorem dL_act_234 : decode cL_act 234 = .ok (.iaload, 1) := by decide +kernel
theorem dL_act_235 : decode cL_act 235 = .ok (.iconst 1, 1) := by decide +kernel
theorem dL_act_236 : decode cL_act 236 = .ok (.iadd, 1) := by decide +kernel
theorem dL_act_237 : decode cL_act 237 = .ok (.iastore, 1) := by decide +kernel
theorem dL_act_238 : decode cL_act 238 = .ok (.aload_n 2, 1) := by decide +kernel
theorem dL_act_239 : decode cL_act 239 = .ok (.iconst 2, 1) := by decide +kernel
theorem dL_act_240 : decode cL_act 240 = .ok (.iload 4, 2) := by decide +kernel
theorem dL_act_242 : decode cL_act 242 = .ok (.iadd, 1) := by decide +kernel
theorem dL_act_243 : decode cL_act 243 = .ok (.iconst 2, 1) := by decide +kernel
theorem dL_act_244 : decode cL_act 244 = .ok (.aload_n 2, 1) := by decide +kernel
theorem dL_act_245 : decode cL_act 245 = .ok (.iconst 2, 1) := by decide +kernel
theorem dL_act_246 : decode cL_act 246 = .ok (.iload 4, 2) := by decide +kernel
theorem dL_act_248 : decode cL_act 248 = .ok (.iadd, 1) := by decide +kernel
theorem dL_act_249 : decode cL_act 249 = .ok (.iaload, 1) := by decide +kernel
theorem dL_act_250 : decode cL_act 250 = .ok (.imul, 1) := by decide +kernel
theorem dL_act_251 : decode cL_act 251 = .ok (.iload 7, 2) := by decide +kernel
theorem dL_act_253 : decode cL_act 253 = .ok (.ifCond .eq 7, 3) := by decide +kernel
theorem dL_act_256 : decode cL_act 256 = .ok (.iconst 1, 1) := by decide +kernel
theorem dL_act_257 : decode cL_act 257 = .ok (.goto 4, 3) := by decide +kernel
theorem dL_act_260 : decode cL_act 260 = .ok (.iconst 0, 1) := by decide +kernel
theorem dL_act_261 : decode cL_act 261 = .ok (.iadd, 1) := by decide +kernel
theorem dL_act_262 : decode cL_act 262 = .ok (.iastore, 1) := by decide +kernel
theorem dL_act_263 : decode cL_act 263 = .ok (.aload_n 0, 1) := by decide +kernel
theorem dL_act_264 : decode cL_act 264 = .ok (.iload 4, 2) := by decide +kernel
theorem dL_act_266 : decode cL_act 266 = .ok (.iload 7, 2) := by decide +kernel
theorem dL_act_268 : decode cL_act 268 = .ok (.invokevirtual 99, 3) := by decide +kernel
theorem dL_act_271 : decode cL_act 271 = .ok (.iload 5, 2) := by decide +kernel
theorem dL_act_273 : decode cL_act 273 = .ok (.iconst 1, 1) := by decide +kernel
theorem dL_act_274 : decode cL_act 274 = .ok (.iadd, 1) := by decide +kernel
theorem dL_act_275 : decode cL_act 275 = .ok (.if_icmp .ne 7, 3) := by decide +kernel
theorem dL_act_278 : decode cL_act 278 = .ok (.iconst 1, 1) := by decide +kernel
theorem dL_act_279 : decode cL_act 279 = .ok (.goto 4, 3) := by decide +kernel
theorem dL_act_282 : decode cL_act 282 = .ok (.iconst (-1), 1) := by decide +kernel
theorem dL_act_283 : decode cL_act 283 = .ok (.ireturn, 1) := by decide +kernel
theorem dL_act_284 : decode cL_act 284 = .ok (.iload 5, 2) := by decide +kernel
theorem dL_act_286 : decode cL_act 286 = .ok (.iconst 2, 1) := by decide +kernel
theorem dL_act_287 : decode cL_act 287 = .ok (.if_icmp .ne 27, 3) := by decide +kernel
theorem dL_act_290 : decode cL_act 290 = .ok (.aload_n 0, 1) := by decide +kernel
theorem dL_act_291 : decode cL_act 291 = .ok (.iload 4, 2) := by decide +kernel
theorem dL_act_293 : decode cL_act 293 = .ok (.invokevirtual 107, 3) := by decide +kernel
theorem dL_act_296 : decode cL_act 296 = .ok (.iconst (-1), 1) := by decide +kernel
theorem dL_act_297 : decode cL_act 297 = .ok (.if_icmp .ne 11, 3) := by decide +kernel
theorem dL_act_300 : decode cL_act 300 = .ok (.aload_n 0, 1) := by decide +kernel
theorem dL_act_301 : decode cL_act 301 = .ok (.invokevirtual 103, 3) := by decide +kernel
theorem dL_act_304 : decode cL_act 304 = .ok (.iconst 5, 1) := by decide +kernel
theorem dL_act_305 : decode cL_act 305 = .ok (.if_icmp .eq 7, 3) := by decide +kernel
theorem dL_act_308 : decode cL_act 308 = .ok (.iconst (-1), 1) := by decide +kernel
theorem dL_act_309 : decode cL_act 309 = .ok (.goto 4, 3) := by decide +kernel
theorem dL_act_312 : decode cL_act 312 = .ok (.iconst 0, 1) := by decide +kernel
theorem dL_act_313 : decode cL_act 313 = .ok (.ireturn, 1) := by decide +kernel
theorem dL_act_314 : decode cL_act 314 = .ok (.aload_n 2, 1) := by decide +kernel
theorem dL_act_315 : decode cL_act 315 = .ok (.iload 4, 2) := by decide +kernel
theorem dL_act_317 : decode cL_act 317 = .ok (.dup2, 1) := by decide +kernel
theorem dL_act_318 : decode cL_act 318 = .ok (.iaload, 1) := by decide +kernel
theorem dL_act_319 : decode cL_act 319 = .ok (.iconst 1, 1) := by decide +kernel
theorem dL_act_320 : decode cL_act 320 = .ok (.isub, 1) := by decide +kernel
theorem dL_act_321 : decode cL_act 321 = .ok (.iastore, 1) := by decide +kernel
theorem dL_act_322 : decode cL_act 322 = .ok (.aload_n 2, 1) := by decide +kernel
theorem dL_act_323 : decode cL_act 323 = .ok (.iconst 2, 1) := by decide +kernel
theorem dL_act_324 : decode cL_act 324 = .ok (.iload 4, 2) := by decide +kernel
theorem dL_act_326 : decode cL_act 326 = .ok (.iadd, 1) := by decide +kernel
theorem dL_act_327 : decode cL_act 327 = .ok (.dup2, 1) := by decide +kernel
theorem dL_act_328 : decode cL_act 328 = .ok (.iaload, 1) := by decide +kernel
theorem dL_act_329 : decode cL_act 329 = .ok (.iconst 2, 1) := by decide +kernel
theorem dL_act_330 : decode cL_act 330 = .ok (.idiv, 1) := by decide +kernel
theorem dL_act_331 : decode cL_act 331 = .ok (.iastore, 1) := by decide +kernel
theorem dL_act_332 : decode cL_act 332 = .ok (.aload_n 0, 1) := by decide +kernel
theorem dL_act_333 : decode cL_act 333 = .ok (.iload 4, 2) := by decide +kernel
theorem dL_act_335 : decode cL_act 335 = .ok (.invokevirtual 107, 3) := by decide +kernel
theorem dL_act_338 : decode cL_act 338 = .ok (.iload 5, 2) := by decide +kernel
theorem dL_act_340 : decode cL_act 340 = .ok (.iconst 1, 1) := by decide +kernel
theorem dL_act_341 : decode cL_act 341 = .ok (.isub, 1) := by decide +kernel
theorem dL_act_342 : decode cL_act 342 = .ok (.if_icmp .ne 7, 3) := by decide +kernel
theorem dL_act_345 : decode cL_act 345 = .ok (.iconst 1, 1) := by decide +kernel
theorem dL_act_346 : decode cL_act 346 = .ok (.goto 4, 3) := by decide +kernel
theorem dL_act_349 : decode cL_act 349 = .ok (.iconst (-1), 1) := by decide +kernel
theorem dL_act_350 : decode cL_act 350 = .ok (.ireturn, 1) := by decide +kernel
theorem dL_law_0 : decode cL_law 0 = .ok (.new 14, 3) := by decide +kernel
theorem dL_law_3 : decode cL_law 3 = .ok (.dup, 1) := by decide +kernel
theorem dL_law_4 : decode cL_law 4 = .ok (.invokespecial 110, 3) := by decide +kernel
theorem dL_law_7 : decode cL_law 7 = .ok (.astore_n 1, 1) := by decide +kernel
theorem dL_law_8 : decode cL_law 8 = .ok (.bipush 7, 2) := by decide +kernel
theorem dL_law_10 : decode cL_law 10 = .ok (.newarray .int, 2) := by decide +kernel
theorem dL_law_12 : decode cL_law 12 = .ok (.astore_n 2, 1) := by decide +kernel
theorem dL_law_13 : decode cL_law 13 = .ok (.bipush 21, 2) := by decide +kernel
theorem dL_law_15 : decode cL_law 15 = .ok (.newarray .int, 2) := by decide +kernel
theorem dL_law_17 : decode cL_law 17 = .ok (.astore_n 3, 1) := by decide +kernel
theorem dL_law_18 : decode cL_law 18 = .ok (.iconst 4, 1) := by decide +kernel
theorem dL_law_19 : decode cL_law 19 = .ok (.newarray .int, 2) := by decide +kernel
theorem dL_law_21 : decode cL_law 21 = .ok (.astore 4, 2) := by decide +kernel
theorem dL_law_23 : decode cL_law 23 = .ok (.aload_n 1, 1) := by decide +kernel
theorem dL_law_24 : decode cL_law 24 = .ok (.aload_n 2, 1) := by decide +kernel
theorem dL_law_25 : decode cL_law 25 = .ok (.aload_n 0, 1) := by decide +kernel
theorem dL_law_26 : decode cL_law 26 = .ok (.iconst 0, 1) := by decide +kernel
theorem dL_law_27 : decode cL_law 27 = .ok (.aload_n 3, 1) := by decide +kernel
theorem dL_law_28 : decode cL_law 28 = .ok (.aload 4, 2) := by decide +kernel
theorem dL_law_30 : decode cL_law 30 = .ok (.invokestatic 111, 3) := by decide +kernel
theorem dL_law_33 : decode cL_law 33 = .ok (.ifCond .eq 10, 3) := by decide +kernel
theorem dL_law_36 : decode cL_law 36 = .ok (.aload_n 1, 1) := by decide +kernel
theorem dL_law_37 : decode cL_law 37 = .ok (.invokevirtual 115, 3) := by decide +kernel
theorem dL_law_40 : decode cL_law 40 = .ok (.ifCond .eq 5, 3) := by decide +kernel
theorem dL_law_43 : decode cL_law 43 = .ok (.iconst 0, 1) := by decide +kernel
theorem dL_law_44 : decode cL_law 44 = .ok (.ireturn, 1) := by decide +kernel
theorem dL_law_45 : decode cL_law 45 = .ok (.iconst 2, 1) := by decide +kernel
theorem dL_law_46 : decode cL_law 46 = .ok (.istore 5, 2) := by decide +kernel
theorem dL_law_48 : decode cL_law 48 = .ok (.iload 5, 2) := by decide +kernel
theorem dL_law_50 : decode cL_law 50 = .ok (.bipush 7, 2) := by decide +kernel
theorem dL_law_52 : decode cL_law 52 = .ok (.if_icmp .ge 231, 3) := by decide +kernel
theorem dL_law_55 : decode cL_law 55 = .ok (.aload_n 1, 1) := by decide +kernel
theorem dL_law_56 : decode cL_law 56 = .ok (.iload 5, 2) := by decide +kernel
theorem dL_law_58 : decode cL_law 58 = .ok (.invokevirtual 118, 3) := by decide +kernel
theorem dL_law_61 : decode cL_law 61 = .ok (.istore 6, 2) := by decide +kernel
theorem dL_law_63 : decode cL_law 63 = .ok (.iload 6, 2) := by decide +kernel
theorem dL_law_65 : decode cL_law 65 = .ok (.iconst 2, 1) := by decide +kernel
theorem dL_law_66 : decode cL_law 66 = .ok (.if_icmp .lt 46, 3) := by decide +kernel
theorem dL_law_69 : decode cL_law 69 = .ok (.iload 6, 2) := by decide +kernel
theorem dL_law_71 : decode cL_law 71 = .ok (.iconst 1, 1) := by decide +kernel
theorem dL_law_72 : decode cL_law 72 = .ok (.iload 5, 2) := by decide +kernel
theorem dL_law_74 : decode cL_law 74 = .ok (.ishl, 1) := by decide +kernel
theorem dL_law_75 : decode cL_law 75 = .ok (.if_icmp .gt 37, 3) := by decide +kernel
theorem dL_law_78 : decode cL_law 78 = .ok (.aload_n 1, 1) := by decide +kernel
theorem dL_law_79 : decode cL_law 79 = .ok (.iload 5, 2) := by decide +kernel
theorem dL_law_81 : decode cL_law 81 = .ok (.invokevirtual 121, 3) := by decide +kernel
theorem dL_law_84 : decode cL_law 84 = .ok (.iconst 1, 1) := by decide +kernel
theorem dL_law_85 : decode cL_law 85 = .ok (.iload 5, 2) := by decide +kernel
theorem dL_law_87 : decode cL_law 87 = .ok (.ishl, 1) := by decide +kernel
theorem dL_law_88 : decode cL_law 88 = .ok (.if_icmp .ge 24, 3) := by decide +kernel
theorem dL_law_91 : decode cL_law 91 = .ok (.aload_n 3, 1) := by decide +kernel
theorem dL_law_92 : decode cL_law 92 = .ok (.iload 5, 2) := by decide +kernel
theorem dL_law_94 : decode cL_law 94 = .ok (.aload_n 1, 1) := by decide +kernel
theorem dL_law_95 : decode cL_law 95 = .ok (.iload 5, 2) := by decide +kernel
theorem dL_law_97 : decode cL_law 97 = .ok (.invokevirtual 121, 3) := by decide +kernel
theorem dL_law_100 : decode cL_law 100 = .ok (.invokestatic 124, 3) := by decide +kernel
theorem dL_law_103 : decode cL_law 103 = .ok (.aload_n 1, 1) := by decide +kernel
theorem dL_law_104 : decode cL_law 104 = .ok (.iload 5, 2) := by decide +kernel
theorem dL_law_106 : decode cL_law 106 = .ok (.invokevirtual 128, 3) := by decide +kernel
theorem dL_law_109 : decode cL_law 109 = .ok (.if_icmp .eq 5, 3) := by decide +kernel
theorem dL_law_112 : decode cL_law 112 = .ok (.iconst 0, 1) := by decide +kernel
theorem dL_law_113 : decode cL_law 113 = .ok (.ireturn, 1) := by decide +kernel
theorem dL_law_114 : decode cL_law 114 = .ok (.sipush 9999, 3) := by decide +kernel
theorem dL_law_117 : decode cL_law 117 = .ok (.istore 7, 2) := by decide +kernel
theorem dL_law_119 : decode cL_law 119 = .ok (.iconst 0, 1) := by decide +kernel
theorem dL_law_120 : decode cL_law 120 = .ok (.istore 8, 2) := by decide +kernel
theorem dL_law_122 : decode cL_law 122 = .ok (.iload 8, 2) := by decide +kernel
theorem dL_law_124 : decode cL_law 124 = .ok (.iconst 4, 1) := by decide +kernel
theorem dL_law_125 : decode cL_law 125 = .ok (.if_icmp .ge 112, 3) := by decide +kernel
theorem dL_law_128 : decode cL_law 128 = .ok (.aload_n 1, 1) := by decide +kernel
theorem dL_law_129 : decode cL_law 129 = .ok (.iload 5, 2) := by decide +kernel
theorem dL_law_131 : decode cL_law 131 = .ok (.iload 8, 2) := by decide +kernel
theorem dL_law_133 : decode cL_law 133 = .ok (.iconst 0, 1) := by decide +kernel
theorem dL_law_134 : decode cL_law 134 = .ok (.invokevirtual 131, 3) := by decide +kernel
theorem dL_law_137 : decode cL_law 137 = .ok (.istore 9, 2) := by decide +kernel
theorem dL_law_139 : decode cL_law 139 = .ok (.iload 9, 2) := by decide +kernel
theorem dL_law_141 : decode cL_law 141 = .ok (.iconst 1, 1) := by decide +kernel
theorem dL_law_142 : decode cL_law 142 = .ok (.if_icmp .lt 76, 3) := by decide +kernel
theorem dL_law_145 : decode cL_law 145 = .ok (.iload 9, 2) := by decide +kernel
theorem dL_law_147 : decode cL_law 147 = .ok (.aload_n 1, 1) := by decide +kernel
theorem dL_law_148 : decode cL_law 148 = .ok (.iload 5, 2) := by decide +kernel
theorem dL_law_150 : decode cL_law 150 = .ok (.iconst 0, 1) := by decide +kernel
theorem dL_law_151 : decode cL_law 151 = .ok (.iconst 0, 1) := by decide +kernel
theorem dL_law_152 : decode cL_law 152 = .ok (.invokevirtual 131, 3) := by decide +kernel
theorem dL_law_155 : decode cL_law 155 = .ok (.if_icmp .gt 63, 3) := by decide +kernel
theorem dL_law_158 : decode cL_law 158 = .ok (.iload 8, 2) := by decide +kernel
theorem dL_law_160 : decode cL_law 160 = .ok (.iconst 3, 1) := by decide +kernel
theorem dL_law_161 : decode cL_law 161 = .ok (.if_icmp .ne 29, 3) := by decide +kernel
theorem dL_law_164 : decode cL_law 164 = .ok (.iload 9, 2) := by decide +kernel
theorem dL_law_166 : decode cL_law 166 = .ok (.aload_n 1, 1) := by decide +kernel
theorem dL_law_167 : decode cL_law 167 = .ok (.iload 5, 2) := by decide +kernel
theorem dL_law_169 : decode cL_law 169 = .ok (.iconst 1, 1) := by decide +kernel
theorem dL_law_170 : decode cL_law 170 = .ok (.iconst 0, 1) := by decide +kernel
theorem dL_law_171 : decode cL_law 171 = .ok (.invokevirtual 131, 3) := by decide +kernel
theorem dL_law_174 : decode cL_law 174 = .ok (.if_icmp .gt 44, 3) := by decide +kernel
theorem dL_law_177 : decode cL_law 177 = .ok (.iload 9, 2) := by decide +kernel
theorem dL_law_179 : decode cL_law 179 = .ok (.aload_n 1, 1) := by decide +kernel
theorem dL_law_180 : decode cL_law 180 = .ok (.iload 5, 2) := by decide +kernel
theorem dL_law_182 : decode cL_law 182 = .ok (.iconst 2, 1) := by decide +kernel
theorem dL_law_183 : decode cL_law 183 = .ok (.iconst 0, 1) := by decide +kernel
theorem dL_law_184 : decode cL_law 184 = .ok (.invokevirtual 131, 3) := by decide +kernel
theorem dL_law_187 : decode cL_law 187 = .ok (.if_icmp .gt 31, 3) := by decide +kernel
theorem dL_law_190 : decode cL_law 190 = .ok (.aload_n 1, 1) := by decide +kernel
theorem dL_law_191 : decode cL_law 191 = .ok (.iload 5, 2) := by decide +kernel
theorem dL_law_193 : decode cL_law 193 = .ok (.iload 8, 2) := by decide +kernel
theorem dL_law_195 : decode cL_law 195 = .ok (.iconst 1, 1) := by decide +kernel
theorem dL_law_196 : decode cL_law 196 = .ok (.invokevirtual 131, 3) := by decide +kernel
theorem dL_law_199 : decode cL_law 199 = .ok (.iload 9, 2) := by decide +kernel
theorem dL_law_201 : decode cL_law 201 = .ok (.if_icmp .gt 17, 3) := by decide +kernel
theorem dL_law_204 : decode cL_law 204 = .ok (.iload 9, 2) := by decide +kernel
theorem dL_law_206 : decode cL_law 206 = .ok (.iconst 4, 1) := by decide +kernel
theorem dL_law_207 : decode cL_law 207 = .ok (.imul, 1) := by decide +kernel
theorem dL_law_208 : decode cL_law 208 = .ok (.iload 5, 2) := by decide +kernel
theorem dL_law_210 : decode cL_law 210 = .ok (.imul, 1) := by decide +kernel
theorem dL_law_211 : decode cL_law 211 = .ok (.iconst 1, 1) := by decide +kernel
theorem dL_law_212 : decode cL_law 212 = .ok (.iload 5, 2) := by decide +kernel
theorem dL_law_214 : decode cL_law 214 = .ok (.ishl, 1) := by decide +kernel
theorem dL_law_215 : decode cL_law 215 = .ok (.if_icmp .ge 5, 3) := by decide +kernel
theorem dL_law_218 : decode cL_law 218 = .ok (.iconst 0, 1) := by decide +kernel
theorem dL_law_219 : decode cL_law 219 = .ok (.ireturn, 1) := by decide +kernel
theorem dL_law_220 : decode cL_law 220 = .ok (.iload 9, 2) := by decide +kernel
theorem dL_law_222 : decode cL_law 222 = .ok (.iload 7, 2) := by decide +kernel
theorem dL_law_224 : decode cL_law 224 = .ok (.if_icmp .ge 7, 3) := by decide +kernel
theorem dL_law_227 : decode cL_law 227 = .ok (.iload 9, 2) := by decide +kernel
theorem dL_law_229 : decode cL_law 229 = .ok (.istore 7, 2) := by decide +kernel
theorem dL_law_231 : decode cL_law 231 = .ok (.iinc 8 1, 3) := by decide +kernel
theorem dL_law_234 : decode cL_law 234 = .ok (.goto (-112), 3) := by decide +kernel
theorem dL_law_237 : decode cL_law 237 = .ok (.iload 7, 2) := by decide +kernel
theorem dL_law_239 : decode cL_law 239 = .ok (.aload_n 1, 1) := by decide +kernel
theorem dL_law_240 : decode cL_law 240 = .ok (.iload 5, 2) := by decide +kernel
theorem dL_law_242 : decode cL_law 242 = .ok (.iconst 3, 1) := by decide +kernel
theorem dL_law_243 : decode cL_law 243 = .ok (.iconst 0, 1) := by decide +kernel
theorem dL_law_244 : decode cL_law 244 = .ok (.invokevirtual 131, 3) := by decide +kernel
theorem dL_law_247 : decode cL_law 247 = .ok (.if_icmp .ne 28, 3) := by decide +kernel
theorem dL_law_250 : decode cL_law 250 = .ok (.aload_n 1, 1) := by decide +kernel
theorem dL_law_251 : decode cL_law 251 = .ok (.aload_n 1, 1) := by decide +kernel
theorem dL_law_252 : decode cL_law 252 = .ok (.invokevirtual 135, 3) := by decide +kernel
theorem dL_law_255 : decode cL_law 255 = .ok (.invokevirtual 128, 3) := by decide +kernel
theorem dL_law_258 : decode cL_law 258 = .ok (.iload 5, 2) := by decide +kernel
theorem dL_law_260 : decode cL_law 260 = .ok (.imul, 1) := by decide +kernel
theorem dL_law_261 : decode cL_law 261 = .ok (.aload_n 1, 1) := by decide +kernel
theorem dL_law_262 : decode cL_law 262 = .ok (.iload 5, 2) := by decide +kernel
theorem dL_law_264 : decode cL_law 264 = .ok (.invokevirtual 128, 3) := by decide +kernel
theorem dL_law_267 : decode cL_law 267 = .ok (.aload_n 1, 1) := by decide +kernel
theorem dL_law_268 : decode cL_law 268 = .ok (.invokevirtual 135, 3) := by decide +kernel
theorem dL_law_271 : decode cL_law 271 = .ok (.imul, 1) := by decide +kernel
theorem dL_law_272 : decode cL_law 272 = .ok (.if_icmp .le 5, 3) := by decide +kernel
theorem dL_law_275 : decode cL_law 275 = .ok (.iconst 0, 1) := by decide +kernel
theorem dL_law_276 : decode cL_law 276 = .ok (.ireturn, 1) := by decide +kernel
theorem dL_law_277 : decode cL_law 277 = .ok (.iinc 5 1, 3) := by decide +kernel
theorem dL_law_280 : decode cL_law 280 = .ok (.goto (-232), 3) := by decide +kernel
theorem dL_law_283 : decode cL_law 283 = .ok (.iconst 0, 1) := by decide +kernel
theorem dL_law_284 : decode cL_law 284 = .ok (.istore 5, 2) := by decide +kernel
theorem dL_law_286 : decode cL_law 286 = .ok (.iload 5, 2) := by decide +kernel
theorem dL_law_288 : decode cL_law 288 = .ok (.iconst 4, 1) := by decide +kernel
theorem dL_law_289 : decode cL_law 289 = .ok (.if_icmp .ge 1602, 3) := by decide +kernel
theorem dL_law_292 : decode cL_law 292 = .ok (.aload_n 0, 1) := by decide +kernel
theorem dL_law_293 : decode cL_law 293 = .ok (.iconst 3, 1) := by decide +kernel
theorem dL_law_294 : decode cL_law 294 = .ok (.iload 5, 2) := by decide +kernel
theorem dL_law_296 : decode cL_law 296 = .ok (.iadd, 1) := by decide +kernel
theorem dL_law_297 : decode cL_law 297 = .ok (.invokestatic 25, 3) := by decide +kernel
theorem dL_law_300 : decode cL_law 300 = .ok (.istore 6, 2) := by decide +kernel
theorem dL_law_302 : decode cL_law 302 = .ok (.iconst 0, 1) := by decide +kernel
theorem dL_law_303 : decode cL_law 303 = .ok (.istore 7, 2) := by decide +kernel
theorem dL_law_305 : decode cL_law 305 = .ok (.iload 7, 2) := by decide +kernel
theorem dL_law_307 : decode cL_law 307 = .ok (.aload_n 3, 1) := by decide +kernel
theorem dL_law_308 : decode cL_law 308 = .ok (.iconst 4, 1) := by decide +kernel
theorem dL_law_309 : decode cL_law 309 = .ok (.iaload, 1) := by decide +kernel
theorem dL_law_310 : decode cL_law 310 = .ok (.if_icmp .ge 1157, 3) := by decide +kernel
theorem dL_law_313 : decode cL_law 313 = .ok (.aload_n 1, 1) := by decide +kernel
theorem dL_law_314 : decode cL_law 314 = .ok (.iload 7, 2) := by decide +kernel
theorem dL_law_316 : decode cL_law 316 = .ok (.iconst 0, 1) := by decide +kernel
theorem dL_law_317 : decode cL_law 317 = .ok (.invokevirtual 138, 3) := by decide +kernel
theorem dL_law_320 : decode cL_law 320 = .ok (.istore 8, 2) := by decide +kernel
theorem dL_law_322 : decode cL_law 322 = .ok (.aload_n 1, 1) := by decide +kernel
theorem dL_law_323 : decode cL_law 323 = .ok (.iload 7, 2) := by decide +kernel
theorem dL_law_325 : decode cL_law 325 = .ok (.iconst 1, 1) := by decide +kernel
theorem dL_law_326 : decode cL_law 326 = .ok (.invokevirtual 138, 3) := by decide +kernel
theorem dL_law_329 : decode cL_law 329 = .ok (.istore 9, 2) := by decide +kernel
theorem dL_law_331 : decode cL_law 331 = .ok (.aload_n 1, 1) := by decide +kernel
theorem dL_law_332 : decode cL_law 332 = .ok (.iload 7, 2) := by decide +kernel
theorem dL_law_334 : decode cL_law 334 = .ok (.iconst 2, 1) := by decide +kernel
theorem dL_law_335 : decode cL_law 335 = .ok (.invokevirtual 138, 3) := by decide +kernel
theorem dL_law_338 : decode cL_law 338 = .ok (.istore 10, 2) := by decide +kernel
theorem dL_law_340 : decode cL_law 340 = .ok (.iload 10, 2) := by decide +kernel
theorem dL_law_342 : decode cL_law 342 = .ok (.iload 8, 2) := by decide +kernel
theorem dL_law_344 : decode cL_law 344 = .ok (.if_icmp .eq 12, 3) := by decide +kernel
theorem dL_law_347 : decode cL_law 347 = .ok (.iload 10, 2) := by decide +kernel
theorem dL_law_349 : decode cL_law 349 = .ok (.iconst 3, 1) := by decide +kernel
theorem dL_law_350 : decode cL_law 350 = .ok (.iload 8, 2) := by decide +kernel
theorem dL_law_352 : decode cL_law 352 = .ok (.imul, 1) := by decide +kernel
theorem dL_law_353 : decode cL_law 353 = .ok (.if_icmp .ne 61, 3) := by decide +kernel
theorem dL_law_356 : decode cL_law 356 = .ok (.iload 8, 2) := by decide +kernel
theorem dL_law_358 : decode cL_law 358 = .ok (.aload_n 1, 1) := by decide +kernel
theorem dL_law_359 : decode cL_law 359 = .ok (.iload 7, 2) := by decide +kernel
theorem dL_law_361 : decode cL_law 361 = .ok (.iconst 3, 1) := by decide +kernel
theorem dL_law_362 : decode cL_law 362 = .ok (.invokevirtual 138, 3) := by decide +kernel
theorem dL_law_365 : decode cL_law 365 = .ok (.irem, 1) := by decide +kernel
theorem dL_law_366 : decode cL_law 366 = .ok (.ifCond .ne 48, 3) := by decide +kernel
theorem dL_law_369 : decode cL_law 369 = .ok (.aload_n 1, 1) := by decide +kernel
theorem dL_law_370 : decode cL_law 370 = .ok (.iload 7, 2) := by decide +kernel
theorem dL_law_372 : decode cL_law 372 = .ok (.invokevirtual 141, 3) := by decide +kernel
theorem dL_law_375 : decode cL_law 375 = .ok (.iload 8, 2) := by decide +kernel
theorem dL_law_377 : decode cL_law 377 = .ok (.isub, 1) := by decide +kernel
theorem dL_law_378 : decode cL_law 378 = .ok (.iconst 2, 1) := by decide +kernel
theorem dL_law_379 : decode cL_law 379 = .ok (.irem, 1) := by decide +kernel
theorem dL_law_380 : decode cL_law 380 = .ok (.ifCond .ne 34, 3) := by decide +kernel
theorem dL_law_383 : decode cL_law 383 = .ok (.iload 10, 2) := by decide +kernel
theorem dL_law_385 : decode cL_law 385 = .ok (.iload 8, 2) := by decide +kernel
theorem dL_law_387 : decode cL_law 387 = .ok (.if_icmp .ne 7, 3) := by decide +kernel
theorem dL_law_390 : decode cL_law 390 = .ok (.iconst 1, 1) := by decide +kernel
theorem dL_law_391 : decode cL_law 391 = .ok (.goto 4, 3) := by decide +kernel
theorem dL_law_394 : decode cL_law 394 = .ok (.iconst 0, 1) := by decide +kernel
theorem dL_law_395 : decode cL_law 395 = .ok (.aload_n 1, 1) := by decide +kernel
theorem dL_law_396 : decode cL_law 396 = .ok (.iload 7, 2) := by decide +kernel
theorem dL_law_398 : decode cL_law 398 = .ok (.invokevirtual 141, 3) := by decide +kernel
theorem dL_law_401 : decode cL_law 401 = .ok (.iconst 3, 1) := by decide +kernel
theorem dL_law_402 : decode cL_law 402 = .ok (.irem, 1) := by decide +kernel
theorem dL_law_403 : decode cL_law 403 = .ok (.ifCond .ne 7, 3) := by decide +kernel
theorem dL_law_406 : decode cL_law 406 = .ok (.iconst 1, 1) := by decide +kernel
theorem dL_law_407 : decode cL_law 407 = .ok (.goto 4, 3) := by decide +kernel
theorem dL_law_410 : decode cL_law 410 = .ok (.iconst 0, 1) := by decide +kernel
theorem dL_law_411 : decode cL_law 411 = .ok (.if_icmp .eq 5, 3) := by decide +kernel
theorem dL_law_414 : decode cL_law 414 = .ok (.iconst 0, 1) := by decide +kernel
theorem dL_law_415 : decode cL_law 415 = .ok (.ireturn, 1) := by decide +kernel
theorem dL_law_416 : decode cL_law 416 = .ok (.iconst 0, 1) := by decide +kernel
theorem dL_law_417 : decode cL_law 417 = .ok (.istore 11, 2) := by decide +kernel
theorem dL_law_419 : decode cL_law 419 = .ok (.iconst 0, 1) := by decide +kernel
theorem dL_law_420 : decode cL_law 420 = .ok (.istore 12, 2) := by decide +kernel
theorem dL_law_422 : decode cL_law 422 = .ok (.iload 12, 2) := by decide +kernel
theorem dL_law_424 : decode cL_law 424 = .ok (.aload_n 1, 1) := by decide +kernel
theorem dL_law_425 : decode cL_law 425 = .ok (.iload 7, 2) := by decide +kernel
theorem dL_law_427 : decode cL_law 427 = .ok (.iconst 5, 1) := by decide +kernel
theorem dL_law_428 : decode cL_law 428 = .ok (.invokevirtual 138, 3) := by decide +kernel
theorem dL_law_431 : decode cL_law 431 = .ok (.if_icmp .ge 22, 3) := by decide +kernel
theorem dL_law_434 : decode cL_law 434 = .ok (.iload 11, 2) := by decide +kernel
theorem dL_law_436 : decode cL_law 436 = .ok (.aload_n 1, 1) := by decide +kernel
theorem dL_law_437 : decode cL_law 437 = .ok (.iload 7, 2) := by decide +kernel
theorem dL_law_439 : decode cL_law 439 = .ok (.iload 12, 2) := by decide +kernel
theorem dL_law_441 : decode cL_law 441 = .ok (.invokevirtual 144, 3) := by decide +kernel
theorem dL_law_444 : decode cL_law 444 = .ok (.iadd, 1) := by decide +kernel
theorem dL_law_445 : decode cL_law 445 = .ok (.istore 11, 2) := by decide +kernel
theorem dL_law_447 : decode cL_law 447 = .ok (.iinc 12 1, 3) := by decide +kernel
theorem dL_law_450 : decode cL_law 450 = .ok (.goto (-28), 3) := by decide +kernel
theorem dL_law_453 : decode cL_law 453 = .ok (.iload 11, 2) := by decide +kernel
theorem dL_law_455 : decode cL_law 455 = .ok (.iload 8, 2) := by decide +kernel
theorem dL_law_457 : decode cL_law 457 = .ok (.if_icmp .ne 54, 3) := by decide +kernel
theorem dL_law_460 : decode cL_law 460 = .ok (.aload_n 1, 1) := by decide +kernel
theorem dL_law_461 : decode cL_law 461 = .ok (.iload 7, 2) := by decide +kernel
theorem dL_law_463 : decode cL_law 463 = .ok (.iconst 5, 1) := by decide +kernel
theorem dL_law_464 : decode cL_law 464 = .ok (.invokevirtual 138, 3) := by decide +kernel
theorem dL_law_467 : decode cL_law 467 = .ok (.iconst 1, 1) := by decide +kernel
theorem dL_law_468 : decode cL_law 468 = .ok (.if_icmp .le 20, 3) := by decide +kernel
theorem dL_law_471 : decode cL_law 471 = .ok (.aload_n 1, 1) := by decide +kernel
theorem dL_law_472 : decode cL_law 472 = .ok (.iload 7, 2) := by decide +kernel
theorem dL_law_474 : decode cL_law 474 = .ok (.iconst 5, 1) := by decide +kernel
theorem dL_law_475 : decode cL_law 475 = .ok (.invokevirtual 138, 3) := by decide +kernel
theorem dL_law_478 : decode cL_law 478 = .ok (.aload_n 1, 1) := by decide +kernel
theorem dL_law_479 : decode cL_law 479 = .ok (.iload 7, 2) := by decide +kernel
theorem dL_law_481 : decode cL_law 481 = .ok (.iconst 4, 1) := by decide +kernel
theorem dL_law_482 : decode cL_law 482 = .ok (.invokevirtual 138, 3) := by decide +kernel
theorem dL_law_485 : decode cL_law 485 = .ok (.if_icmp .ne 26, 3) := by decide +kernel
theorem dL_law_488 : decode cL_law 488 = .ok (.aload_n 1, 1) := by decide +kernel
theorem dL_law_489 : decode cL_law 489 = .ok (.iload 7, 2) := by decide +kernel
theorem dL_law_491 : decode cL_law 491 = .ok (.iconst 5, 1) := by decide +kernel
theorem dL_law_492 : decode cL_law 492 = .ok (.invokevirtual 138, 3) := by decide +kernel
theorem dL_law_495 : decode cL_law 495 = .ok (.iconst 1, 1) := by decide +kernel
theorem dL_law_496 : decode cL_law 496 = .ok (.if_icmp .le 17, 3) := by decide +kernel
theorem dL_law_499 : decode cL_law 499 = .ok (.aload_n 1, 1) := by decide +kernel
theorem dL_law_500 : decode cL_law 500 = .ok (.iload 7, 2) := by decide +kernel
theorem dL_law_502 : decode cL_law 502 = .ok (.iconst 5, 1) := by decide +kernel
theorem dL_law_503 : decode cL_law 503 = .ok (.invokevirtual 138, 3) := by decide +kernel
theorem dL_law_506 : decode cL_law 506 = .ok (.iconst 2, 1) := by decide +kernel
theorem dL_law_507 : decode cL_law 507 = .ok (.irem, 1) := by decide +kernel
theorem dL_law_508 : decode cL_law 508 = .ok (.ifCond .eq 5, 3) := by decide +kernel
theorem dL_law_511 : decode cL_law 511 = .ok (.iconst 0, 1) := by decide +kernel
theorem dL_law_512 : decode cL_law 512 = .ok (.ireturn, 1) := by decide +kernel
theorem dL_law_513 : decode cL_law 513 = .ok (.iconst 0, 1) := by decide +kernel
theorem dL_law_514 : decode cL_law 514 = .ok (.istore 12, 2) := by decide +kernel
theorem dL_law_516 : decode cL_law 516 = .ok (.iload 12, 2) := by decide +kernel
theorem dL_law_518 : decode cL_law 518 = .ok (.bipush 34, 2) := by decide +kernel
theorem dL_law_520 : decode cL_law 520 = .ok (.if_icmp .ge 80, 3) := by decide +kernel
theorem dL_law_523 : decode cL_law 523 = .ok (.aload_n 1, 1) := by decide +kernel
theorem dL_law_524 : decode cL_law 524 = .ok (.iload 7, 2) := by decide +kernel
theorem dL_law_526 : decode cL_law 526 = .ok (.iload 12, 2) := by decide +kernel
theorem dL_law_528 : decode cL_law 528 = .ok (.invokevirtual 147, 3) := by decide +kernel
theorem dL_law_531 : decode cL_law 531 = .ok (.aload_n 1, 1) := by decide +kernel
theorem dL_law_532 : decode cL_law 532 = .ok (.iload 7, 2) := by decide +kernel
theorem dL_law_534 : decode cL_law 534 = .ok (.iload 12, 2) := by decide +kernel
theorem dL_law_536 : decode cL_law 536 = .ok (.iconst 1, 1) := by decide +kernel
theorem dL_law_537 : decode cL_law 537 = .ok (.iadd, 1) := by decide +kernel
theorem dL_law_538 : decode cL_law 538 = .ok (.invokevirtual 147, 3) := by decide +kernel
theorem dL_law_541 : decode cL_law 541 = .ok (.if_icmp .eq 51, 3) := by decide +kernel
theorem dL_law_544 : decode cL_law 544 = .ok (.aload_n 1, 1) := by decide +kernel
theorem dL_law_545 : decode cL_law 545 = .ok (.iload 7, 2) := by decide +kernel
theorem dL_law_547 : decode cL_law 547 = .ok (.iload 12, 2) := by decide +kernel
theorem dL_law_549 : decode cL_law 549 = .ok (.iconst 1, 1) := by decide +kernel
theorem dL_law_550 : decode cL_law 550 = .ok (.iadd, 1) := by decide +kernel
theorem dL_law_551 : decode cL_law 551 = .ok (.invokevirtual 150, 3) := by decide +kernel
theorem dL_law_554 : decode cL_law 554 = .ok (.iconst 1, 1) := by decide +kernel
theorem dL_law_555 : decode cL_law 555 = .ok (.if_icmp .ne 7, 3) := by decide +kernel
theorem dL_law_558 : decode cL_law 558 = .ok (.iconst 1, 1) := by decide +kernel
theorem dL_law_559 : decode cL_law 559 = .ok (.goto 4, 3) := by decide +kernel
theorem dL_law_562 : decode cL_law 562 = .ok (.iconst 0, 1) := by decide +kernel
theorem dL_law_563 : decode cL_law 563 = .ok (.aload_n 1, 1) := by decide +kernel
theorem dL_law_564 : decode cL_law 564 = .ok (.iload 7, 2) := by decide +kernel
theorem dL_law_566 : decode cL_law 566 = .ok (.iload 12, 2) := by decide +kernel
theorem dL_law_568 : decode cL_law 568 = .ok (.invokevirtual 147, 3) := by decide +kernel
theorem dL_law_571 : decode cL_law 571 = .ok (.aload_n 1, 1) := by decide +kernel
theorem dL_law_572 : decode cL_law 572 = .ok (.iload 7, 2) := by decide +kernel
theorem dL_law_574 : decode cL_law 574 = .ok (.iload 12, 2) := by decide +kernel
theorem dL_law_576 : decode cL_law 576 = .ok (.iconst 2, 1) := by decide +kernel
theorem dL_law_577 : decode cL_law 577 = .ok (.iadd, 1) := by decide +kernel
theorem dL_law_578 : decode cL_law 578 = .ok (.invokevirtual 147, 3) := by decide +kernel
theorem dL_law_581 : decode cL_law 581 = .ok (.if_icmp .ne 7, 3) := by decide +kernel
theorem dL_law_584 : decode cL_law 584 = .ok (.iconst 1, 1) := by decide +kernel
theorem dL_law_585 : decode cL_law 585 = .ok (.goto 4, 3) := by decide +kernel
theorem dL_law_588 : decode cL_law 588 = .ok (.iconst 0, 1) := by decide +kernel
theorem dL_law_589 : decode cL_law 589 = .ok (.if_icmp .eq 5, 3) := by decide +kernel
theorem dL_law_592 : decode cL_law 592 = .ok (.iconst 0, 1) := by decide +kernel
theorem dL_law_593 : decode cL_law 593 = .ok (.ireturn, 1) := by decide +kernel
theorem dL_law_594 : decode cL_law 594 = .ok (.iinc 12 1, 3) := by decide +kernel
theorem dL_law_597 : decode cL_law 597 = .ok (.goto (-81), 3) := by decide +kernel
theorem dL_law_600 : decode cL_law 600 = .ok (.iconst 1, 1) := by decide +kernel
theorem dL_law_601 : decode cL_law 601 = .ok (.istore 12, 2) := by decide +kernel
theorem dL_law_603 : decode cL_law 603 = .ok (.iload 12, 2) := by decide +kernel
theorem dL_law_605 : decode cL_law 605 = .ok (.iload 10, 2) := by decide +kernel
theorem dL_law_607 : decode cL_law 607 = .ok (.if_icmp .ge 46, 3) := by decide +kernel
theorem dL_law_610 : decode cL_law 610 = .ok (.aload_n 1, 1) := by decide +kernel
theorem dL_law_611 : decode cL_law 611 = .ok (.iload 7, 2) := by decide +kernel
theorem dL_law_613 : decode cL_law 613 = .ok (.iload 12, 2) := by decide +kernel
theorem dL_law_615 : decode cL_law 615 = .ok (.invokevirtual 153, 3) := by decide +kernel
theorem dL_law_618 : decode cL_law 618 = .ok (.aload_n 1, 1) := by decide +kernel
theorem dL_law_619 : decode cL_law 619 = .ok (.iload 7, 2) := by decide +kernel
theorem dL_law_621 : decode cL_law 621 = .ok (.iload 10, 2) := by decide +kernel
theorem dL_law_623 : decode cL_law 623 = .ok (.iload 12, 2) := by decide +kernel
theorem dL_law_625 : decode cL_law 625 = .ok (.isub, 1) := by decide +kernel
theorem dL_law_626 : decode cL_law 626 = .ok (.invokevirtual 153, 3) := by decide +kernel
theorem dL_law_629 : decode cL_law 629 = .ok (.if_icmp .ne 16, 3) := by decide +kernel
theorem dL_law_632 : decode cL_law 632 = .ok (.aload_n 1, 1) := by decide +kernel
theorem dL_law_633 : decode cL_law 633 = .ok (.iload 7, 2) := by decide +kernel
theorem dL_law_635 : decode cL_law 635 = .ok (.iload 12, 2) := by decide +kernel
theorem dL_law_637 : decode cL_law 637 = .ok (.invokevirtual 153, 3) := by decide +kernel
theorem dL_law_640 : decode cL_law 640 = .ok (.iload 10, 2) := by decide +kernel
theorem dL_law_642 : decode cL_law 642 = .ok (.if_icmp .le 5, 3) := by decide +kernel
theorem dL_law_645 : decode cL_law 645 = .ok (.iconst 0, 1) := by decide +kernel
theorem dL_law_646 : decode cL_law 646 = .ok (.ireturn, 1) := by decide +kernel
theorem dL_law_647 : decode cL_law 647 = .ok (.iinc 12 1, 3) := by decide +kernel
theorem dL_law_650 : decode cL_law 650 = .ok (.goto (-47), 3) := by decide +kernel
theorem dL_law_653 : decode cL_law 653 = .ok (.aload_n 1, 1) := by decide +kernel
theorem dL_law_654 : decode cL_law 654 = .ok (.iload 7, 2) := by decide +kernel
theorem dL_law_656 : decode cL_law 656 = .ok (.iload 10, 2) := by decide +kernel
theorem dL_law_658 : decode cL_law 658 = .ok (.invokevirtual 153, 3) := by decide +kernel
theorem dL_law_661 : decode cL_law 661 = .ok (.iload 10, 2) := by decide +kernel
theorem dL_law_663 : decode cL_law 663 = .ok (.if_icmp .ne 36, 3) := by decide +kernel
theorem dL_law_666 : decode cL_law 666 = .ok (.aload_n 1, 1) := by decide +kernel
theorem dL_law_667 : decode cL_law 667 = .ok (.iload 7, 2) := by decide +kernel
theorem dL_law_669 : decode cL_law 669 = .ok (.iconst 1, 1) := by decide +kernel
theorem dL_law_670 : decode cL_law 670 = .ok (.invokevirtual 153, 3) := by decide +kernel
theorem dL_law_673 : decode cL_law 673 = .ok (.ifCond .ne 26, 3) := by decide +kernel
theorem dL_law_676 : decode cL_law 676 = .ok (.aload_n 1, 1) := by decide +kernel
theorem dL_law_677 : decode cL_law 677 = .ok (.iload 7, 2) := by decide +kernel
theorem dL_law_679 : decode cL_law 679 = .ok (.iconst 2, 1) := by decide +kernel
theorem dL_law_680 : decode cL_law 680 = .ok (.invokevirtual 153, 3) := by decide +kernel
theorem dL_law_683 : decode cL_law 683 = .ok (.iload 8, 2) := by decide +kernel
theorem dL_law_685 : decode cL_law 685 = .ok (.imul, 1) := by decide +kernel
theorem dL_law_686 : decode cL_law 686 = .ok (.aload_n 1, 1) := by decide +kernel
theorem dL_law_687 : decode cL_law 687 = .ok (.iload 7, 2) := by decide +kernel
theorem dL_law_689 : decode cL_law 689 = .ok (.iconst 4, 1) := by decide +kernel
theorem dL_law_690 : decode cL_law 690 = .ok (.invokevirtual 138, 3) := by decide +kernel
theorem dL_law_693 : decode cL_law 693 = .ok (.iload 10, 2) := by decide +kernel
theorem dL_law_695 : decode cL_law 695 = .ok (.imul, 1) := by decide +kernel
theorem dL_law_696 : decode cL_law 696 = .ok (.if_icmp .eq 5, 3) := by decide +kernel
theorem dL_law_699 : decode cL_law 699 = .ok (.iconst 0, 1) := by decide +kernel
theorem dL_law_700 : decode cL_law 700 = .ok (.ireturn, 1) := by decide +kernel
theorem dL_law_701 : decode cL_law 701 = .ok (.aload_n 1, 1) := by decide +kernel
theorem dL_law_702 : decode cL_law 702 = .ok (.iload 7, 2) := by decide +kernel
theorem dL_law_704 : decode cL_law 704 = .ok (.invokevirtual 156, 3) := by decide +kernel
theorem dL_law_707 : decode cL_law 707 = .ok (.istore 12, 2) := by decide +kernel
theorem dL_law_709 : decode cL_law 709 = .ok (.aload_n 1, 1) := by decide +kernel
theorem dL_law_710 : decode cL_law 710 = .ok (.iload 8, 2) := by decide +kernel
theorem dL_law_712 : decode cL_law 712 = .ok (.invokevirtual 128, 3) := by decide +kernel
theorem dL_law_715 : decode cL_law 715 = .ok (.iload 12, 2) := by decide +kernel
theorem dL_law_717 : decode cL_law 717 = .ok (.if_icmp .gt 29, 3) := by decide +kernel
theorem dL_law_720 : decode cL_law 720 = .ok (.iload 12, 2) := by decide +kernel
theorem dL_law_722 : decode cL_law 722 = .ok (.aload_n 1, 1) := by decide +kernel
theorem dL_law_723 : decode cL_law 723 = .ok (.aload_n 1, 1) := by decide +kernel
theorem dL_law_724 : decode cL_law 724 = .ok (.invokevirtual 158, 3) := by decide +kernel
theorem dL_law_727 : decode cL_law 727 = .ok (.iconst 0, 1) := by decide +kernel
theorem dL_law_728 : decode cL_law 728 = .ok (.invokevirtual 138, 3) := by decide +kernel
theorem dL_law_731 : decode cL_law 731 = .ok (.imul, 1) := by decide +kernel
theorem dL_law_732 : decode cL_law 732 = .ok (.aload_n 1, 1) := by decide +kernel
theorem dL_law_733 : decode cL_law 733 = .ok (.aload_n 1, 1) := by decide +kernel
theorem dL_law_734 : decode cL_law 734 = .ok (.invokevirtual 158, 3) := by decide +kernel
theorem dL_law_737 : decode cL_law 737 = .ok (.invokevirtual 156, 3) := by decide +kernel
theorem dL_law_740 : decode cL_law 740 = .ok (.iload 8, 2) := by decide +kernel
theorem dL_law_742 : decode cL_law 742 = .ok (.imul, 1) := by decide +kernel
theorem dL_law_743 : decode cL_law 743 = .ok (.if_icmp .ge 5, 3) := by decide +kernel
theorem dL_law_746 : decode cL_law 746 = .ok (.iconst 0, 1) := by decide +kernel
theorem dL_law_747 : decode cL_law 747 = .ok (.ireturn, 1) := by decide +kernel
theorem dL_law_748 : decode cL_law 748 = .ok (.iconst 0, 1) := by decide +kernel
theorem dL_law_749 : decode cL_law 749 = .ok (.istore 13, 2) := by decide +kernel
theorem dL_law_751 : decode cL_law 751 = .ok (.iconst 0, 1) := by decide +kernel
theorem dL_law_752 : decode cL_law 752 = .ok (.istore 14, 2) := by decide +kernel
theorem dL_law_754 : decode cL_law 754 = .ok (.iload 14, 2) := by decide +kernel
theorem dL_law_756 : decode cL_law 756 = .ok (.iload 10, 2) := by decide +kernel
theorem dL_law_758 : decode cL_law 758 = .ok (.if_icmp .ge 22, 3) := by decide +kernel
theorem dL_law_761 : decode cL_law 761 = .ok (.iload 13, 2) := by decide +kernel
theorem dL_law_763 : decode cL_law 763 = .ok (.aload_n 1, 1) := by decide +kernel
theorem dL_law_764 : decode cL_law 764 = .ok (.iload 7, 2) := by decide +kernel
theorem dL_law_766 : decode cL_law 766 = .ok (.iload 14, 2) := by decide +kernel
theorem dL_law_768 : decode cL_law 768 = .ok (.invokevirtual 161, 3) := by decide +kernel
theorem dL_law_771 : decode cL_law 771 = .ok (.iadd, 1) := by decide +kernel
theorem dL_law_772 : decode cL_law 772 = .ok (.istore 13, 2) := by decide +kernel
theorem dL_law_774 : decode cL_law 774 = .ok (.iinc 14 1, 3) := by decide +kernel
theorem dL_law_777 : decode cL_law 777 = .ok (.goto (-23), 3) := by decide +kernel
theorem dL_law_780 : decode cL_law 780 = .ok (.aload_n 1, 1) := by decide +kernel
theorem dL_law_781 : decode cL_law 781 = .ok (.iload 7, 2) := by decide +kernel
theorem dL_law_783 : decode cL_law 783 = .ok (.invokevirtual 164, 3) := by decide +kernel
theorem dL_law_786 : decode cL_law 786 = .ok (.istore 14, 2) := by decide +kernel
theorem dL_law_788 : decode cL_law 788 = .ok (.iload 13, 2) := by decide +kernel
theorem dL_law_790 : decode cL_law 790 = .ok (.aload_n 1, 1) := by decide +kernel
theorem dL_law_791 : decode cL_law 791 = .ok (.iload 7, 2) := by decide +kernel
theorem dL_law_793 : decode cL_law 793 = .ok (.invokevirtual 167, 3) := by decide +kernel
theorem dL_law_796 : decode cL_law 796 = .ok (.if_icmp .ne 32, 3) := by decide +kernel
theorem dL_law_799 : decode cL_law 799 = .ok (.iload 13, 2) := by decide +kernel
theorem dL_law_801 : decode cL_law 801 = .ok (.iload 10, 2) := by decide +kernel
theorem dL_law_803 : decode cL_law 803 = .ok (.if_icmp .ge 25, 3) := by decide +kernel
theorem dL_law_806 : decode cL_law 806 = .ok (.iload 14, 2) := by decide +kernel
theorem dL_law_808 : decode cL_law 808 = .ok (.ifCond .eq 20, 3) := by decide +kernel
theorem dL_law_811 : decode cL_law 811 = .ok (.iload 14, 2) := by decide +kernel
theorem dL_law_813 : decode cL_law 813 = .ok (.ifCond .le 17, 3) := by decide +kernel
theorem dL_law_816 : decode cL_law 816 = .ok (.aload_n 1, 1) := by decide +kernel
theorem dL_law_817 : decode cL_law 817 = .ok (.iload 7, 2) := by decide +kernel
theorem dL_law_819 : decode cL_law 819 = .ok (.iload 14, 2) := by decide +kernel
theorem dL_law_821 : decode cL_law 821 = .ok (.invokevirtual 161, 3) := by decide +kernel
theorem dL_law_824 : decode cL_law 824 = .ok (.iconst 1, 1) := by decide +kernel
theorem dL_law_825 : decode cL_law 825 = .ok (.if_icmp .ne 5, 3) := by decide +kernel
theorem dL_law_828 : decode cL_law 828 = .ok (.iconst 0, 1) := by decide +kernel
theorem dL_law_829 : decode cL_law 829 = .ok (.ireturn, 1) := by decide +kernel
theorem dL_law_830 : decode cL_law 830 = .ok (.iconst 1, 1) := by decide +kernel
theorem dL_law_831 : decode cL_law 831 = .ok (.istore 15, 2) := by decide +kernel
theorem dL_law_833 : decode cL_law 833 = .ok (.iload 15, 2) := by decide +kernel
theorem dL_law_835 : decode cL_law 835 = .ok (.iload 14, 2) := by decide +kernel
theorem dL_law_837 : decode cL_law 837 = .ok (.if_icmp .ge 22, 3) := by decide +kernel
theorem dL_law_840 : decode cL_law 840 = .ok (.aload_n 1, 1) := by decide +kernel
theorem dL_law_841 : decode cL_law 841 = .ok (.iload 7, 2) := by decide +kernel
theorem dL_law_843 : decode cL_law 843 = .ok (.iload 15, 2) := by decide +kernel
theorem dL_law_845 : decode cL_law 845 = .ok (.invokevirtual 161, 3) := by decide +kernel
theorem dL_law_848 : decode cL_law 848 = .ok (.ifCond .ne 5, 3) := by decide +kernel
theorem dL_law_851 : decode cL_law 851 = .ok (.iconst 0, 1) := by decide +kernel
theorem dL_law_852 : decode cL_law 852 = .ok (.ireturn, 1) := by decide +kernel
theorem dL_law_853 : decode cL_law 853 = .ok (.iinc 15 1, 3) := by decide +kernel
theorem dL_law_856 : decode cL_law 856 = .ok (.goto (-23), 3) := by decide +kernel
theorem dL_law_859 : decode cL_law 859 = .ok (.aload_n 1, 1) := by decide +kernel
theorem dL_law_860 : decode cL_law 860 = .ok (.iload 7, 2) := by decide +kernel
theorem dL_law_862 : decode cL_law 862 = .ok (.invokevirtual 170, 3) := by decide +kernel
theorem dL_law_865 : decode cL_law 865 = .ok (.istore 15, 2) := by decide +kernel
theorem dL_law_867 : decode cL_law 867 = .ok (.aload_n 1, 1) := by decide +kernel
theorem dL_law_868 : decode cL_law 868 = .ok (.iload 7, 2) := by decide +kernel
theorem dL_law_870 : decode cL_law 870 = .ok (.invokevirtual 173, 3) := by decide +kernel
theorem dL_law_873 : decode cL_law 873 = .ok (.istore 16, 2) := by decide +kernel
theorem dL_law_875 : decode cL_law 875 = .ok (.aload_n 3, 1) := by decide +kernel
theorem dL_law_876 : decode cL_law 876 = .ok (.iload 8, 2) := by decide +kernel
theorem dL_law_878 : decode cL_law 878 = .ok (.iload 16, 2) := by decide +kernel
theorem dL_law_880 : decode cL_law 880 = .ok (.invokestatic 124, 3) := by decide +kernel
theorem dL_law_883 : decode cL_law 883 = .ok (.iload 12, 2) := by decide +kernel
theorem dL_law_885 : decode cL_law 885 = .ok (.if_icmp .gt 67, 3) := by decide +kernel
theorem dL_law_888 : decode cL_law 888 = .ok (.aload_n 1, 1) := by decide +kernel
theorem dL_law_889 : decode cL_law 889 = .ok (.iload 7, 2) := by decide +kernel
theorem dL_law_891 : decode cL_law 891 = .ok (.invokevirtual 176, 3) := by decide +kernel
theorem dL_law_894 : decode cL_law 894 = .ok (.ifCond .ne 7, 3) := by decide +kernel
theorem dL_law_897 : decode cL_law 897 = .ok (.iconst 1, 1) := by decide +kernel
theorem dL_law_898 : decode cL_law 898 = .ok (.goto 4, 3) := by decide +kernel
theorem dL_law_901 : decode cL_law 901 = .ok (.iconst 0, 1) := by decide +kernel
theorem dL_law_902 : decode cL_law 902 = .ok (.aload_n 1, 1) := by decide +kernel
theorem dL_law_903 : decode cL_law 903 = .ok (.iload 7, 2) := by decide +kernel
theorem dL_law_905 : decode cL_law 905 = .ok (.iload 15, 2) := by decide +kernel
theorem dL_law_907 : decode cL_law 907 = .ok (.invokevirtual 179, 3) := by decide +kernel
theorem dL_law_910 : decode cL_law 910 = .ok (.iload 12, 2) := by decide +kernel
theorem dL_law_912 : decode cL_law 912 = .ok (.if_icmp .lt 7, 3) := by decide +kernel
theorem dL_law_915 : decode cL_law 915 = .ok (.iconst 1, 1) := by decide +kernel
theorem dL_law_916 : decode cL_law 916 = .ok (.goto 4, 3) := by decide +kernel
theorem dL_law_919 : decode cL_law 919 = .ok (.iconst 0, 1) := by decide +kernel
theorem dL_law_920 : decode cL_law 920 = .ok (.if_icmp .ne 32, 3) := by decide +kernel
theorem dL_law_923 : decode cL_law 923 = .ok (.iload 16, 2) := by decide +kernel
theorem dL_law_925 : decode cL_law 925 = .ok (.iload 9, 2) := by decide +kernel
theorem dL_law_927 : decode cL_law 927 = .ok (.if_icmp .ne 7, 3) := by decide +kernel
theorem dL_law_930 : decode cL_law 930 = .ok (.iconst 1, 1) := by decide +kernel
theorem dL_law_931 : decode cL_law 931 = .ok (.goto 4, 3) := by decide +kernel
theorem dL_law_934 : decode cL_law 934 = .ok (.iconst 0, 1) := by decide +kernel
theorem dL_law_935 : decode cL_law 935 = .ok (.aload_n 1, 1) := by decide +kernel
theorem dL_law_936 : decode cL_law 936 = .ok (.iload 7, 2) := by decide +kernel
theorem dL_law_938 : decode cL_law 938 = .ok (.invokevirtual 176, 3) := by decide +kernel
theorem dL_law_941 : decode cL_law 941 = .ok (.ifCond .ne 7, 3) := by decide +kernel
theorem dL_law_944 : decode cL_law 944 = .ok (.iconst 1, 1) := by decide +kernel
theorem dL_law_945 : decode cL_law 945 = .ok (.goto 4, 3) := by decide +kernel
theorem dL_law_948 : decode cL_law 948 = .ok (.iconst 0, 1) := by decide +kernel
theorem dL_law_949 : decode cL_law 949 = .ok (.if_icmp .eq 5, 3) := by decide +kernel
theorem dL_law_952 : decode cL_law 952 = .ok (.iconst 0, 1) := by decide +kernel
theorem dL_law_953 : decode cL_law 953 = .ok (.ireturn, 1) := by decide +kernel
theorem dL_law_954 : decode cL_law 954 = .ok (.iconst 0, 1) := by decide +kernel
theorem dL_law_955 : decode cL_law 955 = .ok (.istore 17, 2) := by decide +kernel
theorem dL_law_957 : decode cL_law 957 = .ok (.iload 17, 2) := by decide +kernel
theorem dL_law_959 : decode cL_law 959 = .ok (.iload 8, 2) := by decide +kernel
theorem dL_law_961 : decode cL_law 961 = .ok (.if_icmp .ge 56, 3) := by decide +kernel
theorem dL_law_964 : decode cL_law 964 = .ok (.aload_n 1, 1) := by decide +kernel
theorem dL_law_965 : decode cL_law 965 = .ok (.iload 7, 2) := by decide +kernel
theorem dL_law_967 : decode cL_law 967 = .ok (.iload 17, 2) := by decide +kernel
theorem dL_law_969 : decode cL_law 969 = .ok (.invokevirtual 179, 3) := by decide +kernel
theorem dL_law_972 : decode cL_law 972 = .ok (.aload_n 1, 1) := by decide +kernel
theorem dL_law_973 : decode cL_law 973 = .ok (.iload 7, 2) := by decide +kernel
theorem dL_law_975 : decode cL_law 975 = .ok (.iload 15, 2) := by decide +kernel
theorem dL_law_977 : decode cL_law 977 = .ok (.invokevirtual 179, 3) := by decide +kernel
theorem dL_law_980 : decode cL_law 980 = .ok (.if_icmp .lt 29, 3) := by decide +kernel
theorem dL_law_983 : decode cL_law 983 = .ok (.iload 17, 2) := by decide +kernel
theorem dL_law_985 : decode cL_law 985 = .ok (.iload 15, 2) := by decide +kernel
theorem dL_law_987 : decode cL_law 987 = .ok (.if_icmp .ge 24, 3) := by decide +kernel
theorem dL_law_990 : decode cL_law 990 = .ok (.aload_n 1, 1) := by decide +kernel
theorem dL_law_991 : decode cL_law 991 = .ok (.iload 7, 2) := by decide +kernel
theorem dL_law_993 : decode cL_law 993 = .ok (.iload 17, 2) := by decide +kernel
theorem dL_law_995 : decode cL_law 995 = .ok (.invokevirtual 179, 3) := by decide +kernel
theorem dL_law_998 : decode cL_law 998 = .ok (.aload_n 1, 1) := by decide +kernel
theorem dL_law_999 : decode cL_law 999 = .ok (.iload 7, 2) := by decide +kernel
theorem dL_law_1001 : decode cL_law 1001 = .ok (.iload 15, 2) := by decide +kernel
theorem dL_law_1003 : decode cL_law 1003 = .ok (.invokevirtual 179, 3) := by decide +kernel
theorem dL_law_1006 : decode cL_law 1006 = .ok (.if_icmp .ne 5, 3) := by decide +kernel
theorem dL_law_1009 : decode cL_law 1009 = .ok (.iconst 0, 1) := by decide +kernel
theorem dL_law_1010 : decode cL_law 1010 = .ok (.ireturn, 1) := by decide +kernel
theorem dL_law_1011 : decode cL_law 1011 = .ok (.iinc 17 1, 3) := by decide +kernel
theorem dL_law_1014 : decode cL_law 1014 = .ok (.goto (-57), 3) := by decide +kernel
theorem dL_law_1017 : decode cL_law 1017 = .ok (.iconst 1, 1) := by decide +kernel
theorem dL_law_1018 : decode cL_law 1018 = .ok (.istore 17, 2) := by decide +kernel
theorem dL_law_1020 : decode cL_law 1020 = .ok (.iload 17, 2) := by decide +kernel
theorem dL_law_1022 : decode cL_law 1022 = .ok (.iload 8, 2) := by decide +kernel
theorem dL_law_1024 : decode cL_law 1024 = .ok (.if_icmp .ge 34, 3) := by decide +kernel
theorem dL_law_1027 : decode cL_law 1027 = .ok (.aload_n 1, 1) := by decide +kernel
theorem dL_law_1028 : decode cL_law 1028 = .ok (.iload 7, 2) := by decide +kernel
theorem dL_law_1030 : decode cL_law 1030 = .ok (.iload 17, 2) := by decide +kernel
theorem dL_law_1032 : decode cL_law 1032 = .ok (.invokevirtual 182, 3) := by decide +kernel
theorem dL_law_1035 : decode cL_law 1035 = .ok (.aload_n 1, 1) := by decide +kernel
theorem dL_law_1036 : decode cL_law 1036 = .ok (.iload 7, 2) := by decide +kernel
theorem dL_law_1038 : decode cL_law 1038 = .ok (.aload_n 1, 1) := by decide +kernel
theorem dL_law_1039 : decode cL_law 1039 = .ok (.iload 7, 2) := by decide +kernel
theorem dL_law_1041 : decode cL_law 1041 = .ok (.invokevirtual 185, 3) := by decide +kernel
theorem dL_law_1044 : decode cL_law 1044 = .ok (.invokevirtual 182, 3) := by decide +kernel
theorem dL_law_1047 : decode cL_law 1047 = .ok (.if_icmp .ge 5, 3) := by decide +kernel
theorem dL_law_1050 : decode cL_law 1050 = .ok (.iconst 0, 1) := by decide +kernel
theorem dL_law_1051 : decode cL_law 1051 = .ok (.ireturn, 1) := by decide +kernel
theorem dL_law_1052 : decode cL_law 1052 = .ok (.iinc 17 1, 3) := by decide +kernel
theorem dL_law_1055 : decode cL_law 1055 = .ok (.goto (-35), 3) := by decide +kernel
theorem dL_law_1058 : decode cL_law 1058 = .ok (.aload_n 1, 1) := by decide +kernel
theorem dL_law_1059 : decode cL_law 1059 = .ok (.iload 7, 2) := by decide +kernel
theorem dL_law_1061 : decode cL_law 1061 = .ok (.iload 7, 2) := by decide +kernel
theorem dL_law_1063 : decode cL_law 1063 = .ok (.invokevirtual 188, 3) := by decide +kernel
theorem dL_law_1066 : decode cL_law 1066 = .ok (.bipush (-2), 2) := by decide +kernel
theorem dL_law_1068 : decode cL_law 1068 = .ok (.if_icmp .ne 38, 3) := by decide +kernel
theorem dL_law_1071 : decode cL_law 1071 = .ok (.aload_n 1, 1) := by decide +kernel
theorem dL_law_1072 : decode cL_law 1072 = .ok (.iload 7, 2) := by decide +kernel
theorem dL_law_1074 : decode cL_law 1074 = .ok (.iload 7, 2) := by decide +kernel
theorem dL_law_1076 : decode cL_law 1076 = .ok (.invokevirtual 191, 3) := by decide +kernel
theorem dL_law_1079 : decode cL_law 1079 = .ok (.iconst 1, 1) := by decide +kernel
theorem dL_law_1080 : decode cL_law 1080 = .ok (.if_icmp .ne 26, 3) := by decide +kernel
theorem dL_law_1083 : decode cL_law 1083 = .ok (.aload_n 1, 1) := by decide +kernel
theorem dL_law_1084 : decode cL_law 1084 = .ok (.iload 7, 2) := by decide +kernel
theorem dL_law_1086 : decode cL_law 1086 = .ok (.iload 7, 2) := by decide +kernel
theorem dL_law_1088 : decode cL_law 1088 = .ok (.invokevirtual 194, 3) := by decide +kernel
theorem dL_law_1091 : decode cL_law 1091 = .ok (.iload 12, 2) := by decide +kernel
theorem dL_law_1093 : decode cL_law 1093 = .ok (.if_icmp .ne 13, 3) := by decide +kernel
theorem dL_law_1096 : decode cL_law 1096 = .ok (.aload_n 1, 1) := by decide +kernel
theorem dL_law_1097 : decode cL_law 1097 = .ok (.iload 7, 2) := by decide +kernel
theorem dL_law_1099 : decode cL_law 1099 = .ok (.invokevirtual 197, 3) := by decide +kernel
theorem dL_law_1102 : decode cL_law 1102 = .ok (.iconst 1, 1) := by decide +kernel
theorem dL_law_1103 : decode cL_law 1103 = .ok (.if_icmp .ge 5, 3) := by decide +kernel
theorem dL_law_1106 : decode cL_law 1106 = .ok (.iconst 0, 1) := by decide +kernel
theorem dL_law_1107 : decode cL_law 1107 = .ok (.ireturn, 1) := by decide +kernel
theorem dL_law_1108 : decode cL_law 1108 = .ok (.iconst 0, 1) := by decide +kernel
theorem dL_law_1109 : decode cL_law 1109 = .ok (.istore 17, 2) := by decide +kernel
theorem dL_law_1111 : decode cL_law 1111 = .ok (.iload 17, 2) := by decide +kernel
theorem dL_law_1113 : decode cL_law 1113 = .ok (.iconst 4, 1) := by decide +kernel
theorem dL_law_1114 : decode cL_law 1114 = .ok (.if_icmp .ge 272, 3) := by decide +kernel
theorem dL_law_1117 : decode cL_law 1117 = .ok (.aload_n 1, 1) := by decide +kernel
theorem dL_law_1118 : decode cL_law 1118 = .ok (.iload 7, 2) := by decide +kernel
theorem dL_law_1120 : decode cL_law 1120 = .ok (.iload 17, 2) := by decide +kernel
theorem dL_law_1122 : decode cL_law 1122 = .ok (.invokevirtual 200, 3) := by decide +kernel
theorem dL_law_1125 : decode cL_law 1125 = .ok (.istore 18, 2) := by decide +kernel
theorem dL_law_1127 : decode cL_law 1127 = .ok (.iload 18, 2) := by decide +kernel
theorem dL_law_1129 : decode cL_law 1129 = .ok (.iload 9, 2) := by decide +kernel
theorem dL_law_1131 : decode cL_law 1131 = .ok (.if_icmp .gt 79, 3) := by decide +kernel
theorem dL_law_1134 : decode cL_law 1134 = .ok (.aload_n 3, 1) := by decide +kernel
theorem dL_law_1135 : decode cL_law 1135 = .ok (.iload 8, 2) := by decide +kernel
theorem dL_law_1137 : decode cL_law 1137 = .ok (.iload 18, 2) := by decide +kernel
theorem dL_law_1139 : decode cL_law 1139 = .ok (.invokestatic 124, 3) := by decide +kernel
theorem dL_law_1142 : decode cL_law 1142 = .ok (.iload 12, 2) := by decide +kernel
theorem dL_law_1144 : decode cL_law 1144 = .ok (.if_icmp .ne 66, 3) := by decide +kernel
theorem dL_law_1147 : decode cL_law 1147 = .ok (.aload_n 1, 1) := by decide +kernel
theorem dL_law_1148 : decode cL_law 1148 = .ok (.iload 7, 2) := by decide +kernel
theorem dL_law_1150 : decode cL_law 1150 = .ok (.iload 17, 2) := by decide +kernel
theorem dL_law_1152 : decode cL_law 1152 = .ok (.invokevirtual 203, 3) := by decide +kernel
theorem dL_law_1155 : decode cL_law 1155 = .ok (.iconst 4, 1) := by decide +kernel
theorem dL_law_1156 : decode cL_law 1156 = .ok (.iload 8, 2) := by decide +kernel
theorem dL_law_1158 : decode cL_law 1158 = .ok (.imul, 1) := by decide +kernel
theorem dL_law_1159 : decode cL_law 1159 = .ok (.if_icmp .gt 51, 3) := by decide +kernel
theorem dL_law_1162 : decode cL_law 1162 = .ok (.aload_n 1, 1) := by decide +kernel
theorem dL_law_1163 : decode cL_law 1163 = .ok (.iload 7, 2) := by decide +kernel
theorem dL_law_1165 : decode cL_law 1165 = .ok (.iload 7, 2) := by decide +kernel
theorem dL_law_1167 : decode cL_law 1167 = .ok (.iload 17, 2) := by decide +kernel
theorem dL_law_1169 : decode cL_law 1169 = .ok (.invokevirtual 206, 3) := by decide +kernel
theorem dL_law_1172 : decode cL_law 1172 = .ok (.iconst 1, 1) := by decide +kernel
theorem dL_law_1173 : decode cL_law 1173 = .ok (.if_icmp .ne 37, 3) := by decide +kernel
theorem dL_law_1176 : decode cL_law 1176 = .ok (.iload 18, 2) := by decide +kernel
theorem dL_law_1178 : decode cL_law 1178 = .ok (.aload_n 1, 1) := by decide +kernel
theorem dL_law_1179 : decode cL_law 1179 = .ok (.iload 7, 2) := by decide +kernel
theorem dL_law_1181 : decode cL_law 1181 = .ok (.iconst 0, 1) := by decide +kernel
theorem dL_law_1182 : decode cL_law 1182 = .ok (.invokevirtual 200, 3) := by decide +kernel
theorem dL_law_1185 : decode cL_law 1185 = .ok (.if_icmp .gt 25, 3) := by decide +kernel
theorem dL_law_1188 : decode cL_law 1188 = .ok (.iload 17, 2) := by decide +kernel
theorem dL_law_1190 : decode cL_law 1190 = .ok (.ifCond .ne 22, 3) := by decide +kernel
theorem dL_law_1193 : decode cL_law 1193 = .ok (.aload_n 1, 1) := by decide +kernel
theorem dL_law_1194 : decode cL_law 1194 = .ok (.iload 7, 2) := by decide +kernel
theorem dL_law_1196 : decode cL_law 1196 = .ok (.iconst 0, 1) := by decide +kernel
theorem dL_law_1197 : decode cL_law 1197 = .ok (.invokevirtual 203, 3) := by decide +kernel
theorem dL_law_1200 : decode cL_law 1200 = .ok (.aload_n 1, 1) := by decide +kernel
theorem dL_law_1201 : decode cL_law 1201 = .ok (.iload 7, 2) := by decide +kernel
theorem dL_law_1203 : decode cL_law 1203 = .ok (.iconst 3, 1) := by decide +kernel
theorem dL_law_1204 : decode cL_law 1204 = .ok (.invokevirtual 138, 3) := by decide +kernel
theorem dL_law_1207 : decode cL_law 1207 = .ok (.if_icmp .eq 5, 3) := by decide +kernel
theorem dL_law_1210 : decode cL_law 1210 = .ok (.iconst 0, 1) := by decide +kernel
theorem dL_law_1211 : decode cL_law 1211 = .ok (.ireturn, 1) := by decide +kernel
theorem dL_law_1212 : decode cL_law 1212 = .ok (.iconst 0, 1) := by decide +kernel
theorem dL_law_1213 : decode cL_law 1213 = .ok (.istore 19, 2) := by decide +kernel
theorem dL_law_1215 : decode cL_law 1215 = .ok (.iload 19, 2) := by decide +kernel
theorem dL_law_1217 : decode cL_law 1217 = .ok (.aload_n 3, 1) := by decide +kernel
theorem dL_law_1218 : decode cL_law 1218 = .ok (.iconst 4, 1) := by decide +kernel
theorem dL_law_1219 : decode cL_law 1219 = .ok (.iaload, 1) := by decide +kernel
theorem dL_law_1220 : decode cL_law 1220 = .ok (.if_icmp .ge 160, 3) := by decide +kernel
theorem dL_law_1223 : decode cL_law 1223 = .ok (.aload_n 1, 1) := by decide +kernel
theorem dL_law_1224 : decode cL_law 1224 = .ok (.iload 7, 2) := by decide +kernel
theorem dL_law_1226 : decode cL_law 1226 = .ok (.iload 19, 2) := by decide +kernel
theorem dL_law_1228 : decode cL_law 1228 = .ok (.iload 17, 2) := by decide +kernel
theorem dL_law_1230 : decode cL_law 1230 = .ok (.invokevirtual 209, 3) := by decide +kernel
theorem dL_law_1233 : decode cL_law 1233 = .ok (.istore 20, 2) := by decide +kernel
theorem dL_law_1235 : decode cL_law 1235 = .ok (.iload 20, 2) := by decide +kernel
theorem dL_law_1237 : decode cL_law 1237 = .ok (.aload_n 1, 1) := by decide +kernel
theorem dL_law_1238 : decode cL_law 1238 = .ok (.iload 19, 2) := by decide +kernel
theorem dL_law_1240 : decode cL_law 1240 = .ok (.iload 7, 2) := by decide +kernel
theorem dL_law_1242 : decode cL_law 1242 = .ok (.iload 17, 2) := by decide +kernel
theorem dL_law_1244 : decode cL_law 1244 = .ok (.invokevirtual 209, 3) := by decide +kernel
theorem dL_law_1247 : decode cL_law 1247 = .ok (.if_icmp .ne 72, 3) := by decide +kernel
theorem dL_law_1250 : decode cL_law 1250 = .ok (.iload 20, 2) := by decide +kernel
theorem dL_law_1252 : decode cL_law 1252 = .ok (.ifCond .ne 7, 3) := by decide +kernel
theorem dL_law_1255 : decode cL_law 1255 = .ok (.iconst 1, 1) := by decide +kernel
theorem dL_law_1256 : decode cL_law 1256 = .ok (.goto 4, 3) := by decide +kernel
theorem dL_law_1259 : decode cL_law 1259 = .ok (.iconst 0, 1) := by decide +kernel
theorem dL_law_1260 : decode cL_law 1260 = .ok (.aload_n 1, 1) := by decide +kernel
theorem dL_law_1261 : decode cL_law 1261 = .ok (.iload 7, 2) := by decide +kernel
theorem dL_law_1263 : decode cL_law 1263 = .ok (.iload 19, 2) := by decide +kernel
theorem dL_law_1265 : decode cL_law 1265 = .ok (.iload 17, 2) := by decide +kernel
theorem dL_law_1267 : decode cL_law 1267 = .ok (.invokevirtual 206, 3) := by decide +kernel
theorem dL_law_1270 : decode cL_law 1270 = .ok (.iconst 1, 1) := by decide +kernel
theorem dL_law_1271 : decode cL_law 1271 = .ok (.if_icmp .ne 7, 3) := by decide +kernel
theorem dL_law_1274 : decode cL_law 1274 = .ok (.iconst 1, 1) := by decide +kernel
theorem dL_law_1275 : decode cL_law 1275 = .ok (.goto 4, 3) := by decide +kernel
theorem dL_law_1278 : decode cL_law 1278 = .ok (.iconst 0, 1) := by decide +kernel
theorem dL_law_1279 : decode cL_law 1279 = .ok (.if_icmp .ne 40, 3) := by decide +kernel
theorem dL_law_1282 : decode cL_law 1282 = .ok (.iload 20, 2) := by decide +kernel
theorem dL_law_1284 : decode cL_law 1284 = .ok (.ifCond .ge 7, 3) := by decide +kernel
theorem dL_law_1287 : decode cL_law 1287 = .ok (.iconst 1, 1) := by decide +kernel
theorem dL_law_1288 : decode cL_law 1288 = .ok (.goto 4, 3) := by decide +kernel
theorem dL_law_1291 : decode cL_law 1291 = .ok (.iconst 0, 1) := by decide +kernel
theorem dL_law_1292 : decode cL_law 1292 = .ok (.aload_n 1, 1) := by decide +kernel
theorem dL_law_1293 : decode cL_law 1293 = .ok (.iload 19, 2) := by decide +kernel
theorem dL_law_1295 : decode cL_law 1295 = .ok (.iconst 0, 1) := by decide +kernel
theorem dL_law_1296 : decode cL_law 1296 = .ok (.invokevirtual 138, 3) := by decide +kernel
theorem dL_law_1299 : decode cL_law 1299 = .ok (.iload 8, 2) := by decide +kernel
theorem dL_law_1301 : decode cL_law 1301 = .ok (.if_icmp .eq 7, 3) := by decide +kernel
theorem dL_law_1304 : decode cL_law 1304 = .ok (.iconst 1, 1) := by decide +kernel
theorem dL_law_1305 : decode cL_law 1305 = .ok (.goto 4, 3) := by decide +kernel
theorem dL_law_1308 : decode cL_law 1308 = .ok (.iconst 0, 1) := by decide +kernel
theorem dL_law_1309 : decode cL_law 1309 = .ok (.if_icmp .ne 10, 3) := by decide +kernel
theorem dL_law_1312 : decode cL_law 1312 = .ok (.iload 20, 2) := by decide +kernel
theorem dL_law_1314 : decode cL_law 1314 = .ok (.iload 8, 2) := by decide +kernel
theorem dL_law_1316 : decode cL_law 1316 = .ok (.if_icmp .le 5, 3) := by decide +kernel
theorem dL_law_1319 : decode cL_law 1319 = .ok (.iconst 0, 1) := by decide +kernel
theorem dL_law_1320 : decode cL_law 1320 = .ok (.ireturn, 1) := by decide +kernel
theorem dL_law_1321 : decode cL_law 1321 = .ok (.aload_n 1, 1) := by decide +kernel
theorem dL_law_1322 : decode cL_law 1322 = .ok (.iload 7, 2) := by decide +kernel
theorem dL_law_1324 : decode cL_law 1324 = .ok (.iload 19, 2) := by decide +kernel
theorem dL_law_1326 : decode cL_law 1326 = .ok (.iload 17, 2) := by decide +kernel
theorem dL_law_1328 : decode cL_law 1328 = .ok (.invokevirtual 206, 3) := by decide +kernel
theorem dL_law_1331 : decode cL_law 1331 = .ok (.iconst 1, 1) := by decide +kernel
theorem dL_law_1332 : decode cL_law 1332 = .ok (.if_icmp .ne 42, 3) := by decide +kernel
theorem dL_law_1335 : decode cL_law 1335 = .ok (.aload_n 1, 1) := by decide +kernel
theorem dL_law_1336 : decode cL_law 1336 = .ok (.iload 19, 2) := by decide +kernel
theorem dL_law_1338 : decode cL_law 1338 = .ok (.iload 17, 2) := by decide +kernel
theorem dL_law_1340 : decode cL_law 1340 = .ok (.invokevirtual 200, 3) := by decide +kernel
theorem dL_law_1343 : decode cL_law 1343 = .ok (.iload 18, 2) := by decide +kernel
theorem dL_law_1345 : decode cL_law 1345 = .ok (.if_icmp .ne 27, 3) := by decide +kernel
theorem dL_law_1348 : decode cL_law 1348 = .ok (.aload_n 1, 1) := by decide +kernel
theorem dL_law_1349 : decode cL_law 1349 = .ok (.iload 19, 2) := by decide +kernel
theorem dL_law_1351 : decode cL_law 1351 = .ok (.invokevirtual 156, 3) := by decide +kernel
theorem dL_law_1354 : decode cL_law 1354 = .ok (.iload 12, 2) := by decide +kernel
theorem dL_law_1356 : decode cL_law 1356 = .ok (.if_icmp .ne 16, 3) := by decide +kernel
theorem dL_law_1359 : decode cL_law 1359 = .ok (.aload_n 1, 1) := by decide +kernel
theorem dL_law_1360 : decode cL_law 1360 = .ok (.iload 7, 2) := by decide +kernel
theorem dL_law_1362 : decode cL_law 1362 = .ok (.iload 19, 2) := by decide +kernel
theorem dL_law_1364 : decode cL_law 1364 = .ok (.invokevirtual 188, 3) := by decide +kernel
theorem dL_law_1367 : decode cL_law 1367 = .ok (.bipush (-2), 2) := by decide +kernel
theorem dL_law_1369 : decode cL_law 1369 = .ok (.if_icmp .eq 5, 3) := by decide +kernel
theorem dL_law_1372 : decode cL_law 1372 = .ok (.iconst 0, 1) := by decide +kernel
theorem dL_law_1373 : decode cL_law 1373 = .ok (.ireturn, 1) := by decide +kernel
theorem dL_law_1374 : decode cL_law 1374 = .ok (.iinc 19 1, 3) := by decide +kernel
theorem dL_law_1377 : decode cL_law 1377 = .ok (.goto (-162), 3) := by decide +kernel
theorem dL_law_1380 : decode cL_law 1380 = .ok (.iinc 17 1, 3) := by decide +kernel
theorem dL_law_1383 : decode cL_law 1383 = .ok (.goto (-272), 3) := by decide +kernel
theorem dL_law_1386 : decode cL_law 1386 = .ok (.iconst 0, 1) := by decide +kernel
theorem dL_law_1387 : decode cL_law 1387 = .ok (.istore 17, 2) := by decide +kernel
theorem dL_law_1389 : decode cL_law 1389 = .ok (.iload 17, 2) := by decide +kernel
theorem dL_law_1391 : decode cL_law 1391 = .ok (.aload_n 3, 1) := by decide +kernel
theorem dL_law_1392 : decode cL_law 1392 = .ok (.iconst 4, 1) := by decide +kernel
theorem dL_law_1393 : decode cL_law 1393 = .ok (.iaload, 1) := by decide +kernel
theorem dL_law_1394 : decode cL_law 1394 = .ok (.if_icmp .ge 67, 3) := by decide +kernel
theorem dL_law_1397 : decode cL_law 1397 = .ok (.aload_n 1, 1) := by decide +kernel
theorem dL_law_1398 : decode cL_law 1398 = .ok (.iload 17, 2) := by decide +kernel
theorem dL_law_1400 : decode cL_law 1400 = .ok (.iconst 0, 1) := by decide +kernel
theorem dL_law_1401 : decode cL_law 1401 = .ok (.invokevirtual 138, 3) := by decide +kernel
theorem dL_law_1404 : decode cL_law 1404 = .ok (.iload 8, 2) := by decide +kernel
theorem dL_law_1406 : decode cL_law 1406 = .ok (.if_icmp .eq 6, 3) := by decide +kernel
theorem dL_law_1409 : decode cL_law 1409 = .ok (.goto 46, 3) := by decide +kernel
theorem dL_law_1412 : decode cL_law 1412 = .ok (.aload_n 1, 1) := by decide +kernel
theorem dL_law_1413 : decode cL_law 1413 = .ok (.iload 7, 2) := by decide +kernel
theorem dL_law_1415 : decode cL_law 1415 = .ok (.iload 17, 2) := by decide +kernel
theorem dL_law_1417 : decode cL_law 1417 = .ok (.invokevirtual 194, 3) := by decide +kernel
theorem dL_law_1420 : decode cL_law 1420 = .ok (.istore 18, 2) := by decide +kernel
theorem dL_law_1422 : decode cL_law 1422 = .ok (.iload 18, 2) := by decide +kernel
theorem dL_law_1424 : decode cL_law 1424 = .ok (.aload_n 1, 1) := by decide +kernel
theorem dL_law_1425 : decode cL_law 1425 = .ok (.iload 17, 2) := by decide +kernel
theorem dL_law_1427 : decode cL_law 1427 = .ok (.iload 7, 2) := by decide +kernel
theorem dL_law_1429 : decode cL_law 1429 = .ok (.invokevirtual 194, 3) := by decide +kernel
theorem dL_law_1432 : decode cL_law 1432 = .ok (.if_icmp .ne 21, 3) := by decide +kernel
theorem dL_law_1435 : decode cL_law 1435 = .ok (.iload 18, 2) := by decide +kernel
theorem dL_law_1437 : decode cL_law 1437 = .ok (.iload 12, 2) := by decide +kernel
theorem dL_law_1439 : decode cL_law 1439 = .ok (.if_icmp .lt 14, 3) := by decide +kernel
theorem dL_law_1442 : decode cL_law 1442 = .ok (.iload 18, 2) := by decide +kernel
theorem dL_law_1444 : decode cL_law 1444 = .ok (.aload_n 1, 1) := by decide +kernel
theorem dL_law_1445 : decode cL_law 1445 = .ok (.iload 17, 2) := by decide +kernel
theorem dL_law_1447 : decode cL_law 1447 = .ok (.invokevirtual 156, 3) := by decide +kernel
theorem dL_law_1450 : decode cL_law 1450 = .ok (.if_icmp .ge 5, 3) := by decide +kernel
theorem dL_law_1453 : decode cL_law 1453 = .ok (.iconst 0, 1) := by decide +kernel
theorem dL_law_1454 : decode cL_law 1454 = .ok (.ireturn, 1) := by decide +kernel
theorem dL_law_1455 : decode cL_law 1455 = .ok (.iinc 17 1, 3) := by decide +kernel
theorem dL_law_1458 : decode cL_law 1458 = .ok (.goto (-69), 3) := by decide +kernel
theorem dL_law_1461 : decode cL_law 1461 = .ok (.iinc 7 1, 3) := by decide +kernel
theorem dL_law_1464 : decode cL_law 1464 = .ok (.goto (-1159), 3) := by decide +kernel
theorem dL_law_1467 : decode cL_law 1467 = .ok (.aload_n 1, 1) := by decide +kernel
theorem dL_law_1468 : decode cL_law 1468 = .ok (.invokevirtual 212, 3) := by decide +kernel
theorem dL_law_1471 : decode cL_law 1471 = .ok (.istore 7, 2) := by decide +kernel
theorem dL_law_1473 : decode cL_law 1473 = .ok (.iload 7, 2) := by decide +kernel
theorem dL_law_1475 : decode cL_law 1475 = .ok (.iconst 1, 1) := by decide +kernel
theorem dL_law_1476 : decode cL_law 1476 = .ok (.aload_n 3, 1) := by decide +kernel
theorem dL_law_1477 : decode cL_law 1477 = .ok (.bipush 9, 2) := by decide +kernel
theorem dL_law_1479 : decode cL_law 1479 = .ok (.iaload, 1) := by decide +kernel
theorem dL_law_1480 : decode cL_law 1480 = .ok (.ishl, 1) := by decide +kernel
theorem dL_law_1481 : decode cL_law 1481 = .ok (.if_icmp .gt 70, 3) := by decide +kernel
theorem dL_law_1484 : decode cL_law 1484 = .ok (.aload_n 1, 1) := by decide +kernel
theorem dL_law_1485 : decode cL_law 1485 = .ok (.invokevirtual 215, 3) := by decide +kernel
theorem dL_law_1488 : decode cL_law 1488 = .ok (.ifCond .ge 8, 3) := by decide +kernel
theorem dL_law_1491 : decode cL_law 1491 = .ok (.iload 7, 2) := by decide +kernel
theorem dL_law_1493 : decode cL_law 1493 = .ok (.ifCond .eq 58, 3) := by decide +kernel
theorem dL_law_1496 : decode cL_law 1496 = .ok (.aload_n 1, 1) := by decide +kernel
theorem dL_law_1497 : decode cL_law 1497 = .ok (.invokevirtual 218, 3) := by decide +kernel
theorem dL_law_1500 : decode cL_law 1500 = .ok (.iload 7, 2) := by decide +kernel
theorem dL_law_1502 : decode cL_law 1502 = .ok (.if_icmp .gt 49, 3) := by decide +kernel
theorem dL_law_1505 : decode cL_law 1505 = .ok (.aload_n 1, 1) := by decide +kernel
theorem dL_law_1506 : decode cL_law 1506 = .ok (.invokevirtual 221, 3) := by decide +kernel
theorem dL_law_1509 : decode cL_law 1509 = .ok (.ifCond .ge 7, 3) := by decide +kernel
theorem dL_law_1512 : decode cL_law 1512 = .ok (.iconst 1, 1) := by decide +kernel
theorem dL_law_1513 : decode cL_law 1513 = .ok (.goto 4, 3) := by decide +kernel
theorem dL_law_1516 : decode cL_law 1516 = .ok (.iconst 0, 1) := by decide +kernel
theorem dL_law_1517 : decode cL_law 1517 = .ok (.iload 7, 2) := by decide +kernel
theorem dL_law_1519 : decode cL_law 1519 = .ok (.ifCond .eq 10, 3) := by decide +kernel
theorem dL_law_1522 : decode cL_law 1522 = .ok (.aload_n 3, 1) := by decide +kernel
theorem dL_law_1523 : decode cL_law 1523 = .ok (.bipush 9, 2) := by decide +kernel
theorem dL_law_1525 : decode cL_law 1525 = .ok (.iaload, 1) := by decide +kernel
theorem dL_law_1526 : decode cL_law 1526 = .ok (.ifCond .ne 7, 3) := by decide +kernel
theorem dL_law_1529 : decode cL_law 1529 = .ok (.iconst 1, 1) := by decide +kernel
theorem dL_law_1530 : decode cL_law 1530 = .ok (.goto 4, 3) := by decide +kernel
theorem dL_law_1533 : decode cL_law 1533 = .ok (.iconst 0, 1) := by decide +kernel
theorem dL_law_1534 : decode cL_law 1534 = .ok (.if_icmp .ne 17, 3) := by decide +kernel
theorem dL_law_1537 : decode cL_law 1537 = .ok (.aload_n 1, 1) := by decide +kernel
theorem dL_law_1538 : decode cL_law 1538 = .ok (.invokevirtual 224, 3) := by decide +kernel
theorem dL_law_1541 : decode cL_law 1541 = .ok (.aload_n 1, 1) := by decide +kernel
theorem dL_law_1542 : decode cL_law 1542 = .ok (.invokevirtual 227, 3) := by decide +kernel
theorem dL_law_1545 : decode cL_law 1545 = .ok (.iconst (-1), 1) := by decide +kernel
theorem dL_law_1546 : decode cL_law 1546 = .ok (.ixor, 1) := by decide +kernel
theorem dL_law_1547 : decode cL_law 1547 = .ok (.iand, 1) := by decide +kernel
theorem dL_law_1548 : decode cL_law 1548 = .ok (.ifCond .eq 5, 3) := by decide +kernel
theorem dL_law_1551 : decode cL_law 1551 = .ok (.iconst 0, 1) := by decide +kernel
theorem dL_law_1552 : decode cL_law 1552 = .ok (.ireturn, 1) := by decide +kernel
theorem dL_law_1553 : decode cL_law 1553 = .ok (.iconst (-1), 1) := by decide +kernel
theorem dL_law_1554 : decode cL_law 1554 = .ok (.istore 8, 2) := by decide +kernel
theorem dL_law_1556 : decode cL_law 1556 = .ok (.iconst 0, 1) := by decide +kernel
theorem dL_law_1557 : decode cL_law 1557 = .ok (.istore 9, 2) := by decide +kernel
theorem dL_law_1559 : decode cL_law 1559 = .ok (.iload 9, 2) := by decide +kernel
theorem dL_law_1561 : decode cL_law 1561 = .ok (.iload 7, 2) := by decide +kernel
theorem dL_law_1563 : decode cL_law 1563 = .ok (.if_icmp .ge 54, 3) := by decide +kernel
theorem dL_law_1566 : decode cL_law 1566 = .ok (.aload_n 1, 1) := by decide +kernel
theorem dL_law_1567 : decode cL_law 1567 = .ok (.iload 9, 2) := by decide +kernel
theorem dL_law_1569 : decode cL_law 1569 = .ok (.invokevirtual 230, 3) := by decide +kernel
theorem dL_law_1572 : decode cL_law 1572 = .ok (.istore 10, 2) := by decide +kernel
theorem dL_law_1574 : decode cL_law 1574 = .ok (.iload 10, 2) := by decide +kernel
theorem dL_law_1576 : decode cL_law 1576 = .ok (.iload 8, 2) := by decide +kernel
theorem dL_law_1578 : decode cL_law 1578 = .ok (.if_icmp .le 27, 3) := by decide +kernel
theorem dL_law_1581 : decode cL_law 1581 = .ok (.iload 10, 2) := by decide +kernel
theorem dL_law_1583 : decode cL_law 1583 = .ok (.aload_n 1, 1) := by decide +kernel
theorem dL_law_1584 : decode cL_law 1584 = .ok (.invokevirtual 227, 3) := by decide +kernel
theorem dL_law_1587 : decode cL_law 1587 = .ok (.iconst (-1), 1) := by decide +kernel
theorem dL_law_1588 : decode cL_law 1588 = .ok (.ixor, 1) := by decide +kernel
theorem dL_law_1589 : decode cL_law 1589 = .ok (.iand, 1) := by decide +kernel
theorem dL_law_1590 : decode cL_law 1590 = .ok (.ifCond .ne 15, 3) := by decide +kernel
theorem dL_law_1593 : decode cL_law 1593 = .ok (.aload_n 1, 1) := by decide +kernel
theorem dL_law_1594 : decode cL_law 1594 = .ok (.invokevirtual 224, 3) := by decide +kernel
theorem dL_law_1597 : decode cL_law 1597 = .ok (.iload 10, 2) := by decide +kernel
theorem dL_law_1599 : decode cL_law 1599 = .ok (.iconst (-1), 1) := by decide +kernel
theorem dL_law_1600 : decode cL_law 1600 = .ok (.ixor, 1) := by decide +kernel
theorem dL_law_1601 : decode cL_law 1601 = .ok (.iand, 1) := by decide +kernel
theorem dL_law_1602 : decode cL_law 1602 = .ok (.ifCond .eq 5, 3) := by decide +kernel
theorem dL_law_1605 : decode cL_law 1605 = .ok (.iconst 0, 1) := by decide +kernel
theorem dL_law_1606 : decode cL_law 1606 = .ok (.ireturn, 1) := by decide +kernel
theorem dL_law_1607 : decode cL_law 1607 = .ok (.iload 10, 2) := by decide +kernel
theorem dL_law_1609 : decode cL_law 1609 = .ok (.istore 8, 2) := by decide +kernel
theorem dL_law_1611 : decode cL_law 1611 = .ok (.iinc 9 1, 3) := by decide +kernel
theorem dL_law_1614 : decode cL_law 1614 = .ok (.goto (-55), 3) := by decide +kernel
theorem dL_law_1617 : decode cL_law 1617 = .ok (.iconst 1, 1) := by decide +kernel
theorem dL_law_1618 : decode cL_law 1618 = .ok (.iload 6, 2) := by decide +kernel
theorem dL_law_1620 : decode cL_law 1620 = .ok (.bipush 7, 2) := by decide +kernel
theorem dL_law_1622 : decode cL_law 1622 = .ok (.iand, 1) := by decide +kernel
theorem dL_law_1623 : decode cL_law 1623 = .ok (.iadd, 1) := by decide +kernel
theorem dL_law_1624 : decode cL_law 1624 = .ok (.istore 9, 2) := by decide +kernel
theorem dL_law_1626 : decode cL_law 1626 = .ok (.iconst 0, 1) := by decide +kernel
theorem dL_law_1627 : decode cL_law 1627 = .ok (.istore 10, 2) := by decide +kernel
theorem dL_law_1629 : decode cL_law 1629 = .ok (.iload 10, 2) := by decide +kernel
theorem dL_law_1631 : decode cL_law 1631 = .ok (.bipush 7, 2) := by decide +kernel
theorem dL_law_1633 : decode cL_law 1633 = .ok (.if_icmp .ge 56, 3) := by decide +kernel
theorem dL_law_1636 : decode cL_law 1636 = .ok (.aload_n 1, 1) := by decide +kernel
theorem dL_law_1637 : decode cL_law 1637 = .ok (.iload 9, 2) := by decide +kernel
theorem dL_law_1639 : decode cL_law 1639 = .ok (.iload 10, 2) := by decide +kernel
theorem dL_law_1641 : decode cL_law 1641 = .ok (.iconst 0, 1) := by decide +kernel
theorem dL_law_1642 : decode cL_law 1642 = .ok (.invokevirtual 233, 3) := by decide +kernel
theorem dL_law_1645 : decode cL_law 1645 = .ok (.aload_n 1, 1) := by decide +kernel
theorem dL_law_1646 : decode cL_law 1646 = .ok (.iload 9, 2) := by decide +kernel
theorem dL_law_1648 : decode cL_law 1648 = .ok (.iload 10, 2) := by decide +kernel
theorem dL_law_1650 : decode cL_law 1650 = .ok (.iconst 1, 1) := by decide +kernel
theorem dL_law_1651 : decode cL_law 1651 = .ok (.invokevirtual 233, 3) := by decide +kernel
theorem dL_law_1654 : decode cL_law 1654 = .ok (.lcmp, 1) := by decide +kernel
theorem dL_law_1655 : decode cL_law 1655 = .ok (.ifCond .gt 26, 3) := by decide +kernel
theorem dL_law_1658 : decode cL_law 1658 = .ok (.iload 10, 2) := by decide +kernel
theorem dL_law_1660 : decode cL_law 1660 = .ok (.iload 9, 2) := by decide +kernel
theorem dL_law_1662 : decode cL_law 1662 = .ok (.iconst 1, 1) := by decide +kernel
theorem dL_law_1663 : decode cL_law 1663 = .ok (.isub, 1) := by decide +kernel
theorem dL_law_1664 : decode cL_law 1664 = .ok (.if_icmp .lt 19, 3) := by decide +kernel
theorem dL_law_1667 : decode cL_law 1667 = .ok (.aload_n 1, 1) := by decide +kernel
theorem dL_law_1668 : decode cL_law 1668 = .ok (.iload 9, 2) := by decide +kernel
theorem dL_law_1670 : decode cL_law 1670 = .ok (.iload 10, 2) := by decide +kernel
theorem dL_law_1672 : decode cL_law 1672 = .ok (.iconst 0, 1) := by decide +kernel
theorem dL_law_1673 : decode cL_law 1673 = .ok (.invokevirtual 233, 3) := by decide +kernel
theorem dL_law_1676 : decode cL_law 1676 = .ok (.lconst 1, 1) := by decide +kernel
theorem dL_law_1677 : decode cL_law 1677 = .ok (.lcmp, 1) := by decide +kernel
theorem dL_law_1678 : decode cL_law 1678 = .ok (.ifCond .eq 5, 3) := by decide +kernel
theorem dL_law_1681 : decode cL_law 1681 = .ok (.iconst 0, 1) := by decide +kernel
theorem dL_law_1682 : decode cL_law 1682 = .ok (.ireturn, 1) := by decide +kernel
theorem dL_law_1683 : decode cL_law 1683 = .ok (.iinc 10 1, 3) := by decide +kernel
theorem dL_law_1686 : decode cL_law 1686 = .ok (.goto (-57), 3) := by decide +kernel
theorem dL_law_1689 : decode cL_law 1689 = .ok (.aload_n 1, 1) := by decide +kernel
theorem dL_law_1690 : decode cL_law 1690 = .ok (.iload 9, 2) := by decide +kernel
theorem dL_law_1692 : decode cL_law 1692 = .ok (.iconst 0, 1) := by decide +kernel
theorem dL_law_1693 : decode cL_law 1693 = .ok (.invokevirtual 237, 3) := by decide +kernel
theorem dL_law_1696 : decode cL_law 1696 = .ok (.iload 9, 2) := by decide +kernel
theorem dL_law_1698 : decode cL_law 1698 = .ok (.i2l, 1) := by decide +kernel
theorem dL_law_1699 : decode cL_law 1699 = .ok (.aload_n 1, 1) := by decide +kernel
theorem dL_law_1700 : decode cL_law 1700 = .ok (.iload 9, 2) := by decide +kernel
theorem dL_law_1702 : decode cL_law 1702 = .ok (.iconst 1, 1) := by decide +kernel
theorem dL_law_1703 : decode cL_law 1703 = .ok (.invokevirtual 237, 3) := by decide +kernel
theorem dL_law_1706 : decode cL_law 1706 = .ok (.lmul, 1) := by decide +kernel
theorem dL_law_1707 : decode cL_law 1707 = .ok (.lcmp, 1) := by decide +kernel
theorem dL_law_1708 : decode cL_law 1708 = .ok (.ifCond .gt 38, 3) := by decide +kernel
theorem dL_law_1711 : decode cL_law 1711 = .ok (.aload_n 1, 1) := by decide +kernel
theorem dL_law_1712 : decode cL_law 1712 = .ok (.iload 9, 2) := by decide +kernel
theorem dL_law_1714 : decode cL_law 1714 = .ok (.iconst 0, 1) := by decide +kernel
theorem dL_law_1715 : decode cL_law 1715 = .ok (.invokevirtual 237, 3) := by decide +kernel
theorem dL_law_1718 : decode cL_law 1718 = .ok (.iload 9, 2) := by decide +kernel
theorem dL_law_1720 : decode cL_law 1720 = .ok (.ineg, 1) := by decide +kernel
theorem dL_law_1721 : decode cL_law 1721 = .ok (.i2l, 1) := by decide +kernel
theorem dL_law_1722 : decode cL_law 1722 = .ok (.aload_n 1, 1) := by decide +kernel
theorem dL_law_1723 : decode cL_law 1723 = .ok (.iload 9, 2) := by decide +kernel
theorem dL_law_1725 : decode cL_law 1725 = .ok (.iconst 1, 1) := by decide +kernel
theorem dL_law_1726 : decode cL_law 1726 = .ok (.invokevirtual 237, 3) := by decide +kernel
theorem dL_law_1729 : decode cL_law 1729 = .ok (.lmul, 1) := by decide +kernel
theorem dL_law_1730 : decode cL_law 1730 = .ok (.lcmp, 1) := by decide +kernel
theorem dL_law_1731 : decode cL_law 1731 = .ok (.ifCond .lt 15, 3) := by decide +kernel
theorem dL_law_1734 : decode cL_law 1734 = .ok (.aload_n 1, 1) := by decide +kernel
theorem dL_law_1735 : decode cL_law 1735 = .ok (.iload 9, 2) := by decide +kernel
theorem dL_law_1737 : decode cL_law 1737 = .ok (.iconst 1, 1) := by decide +kernel
theorem dL_law_1738 : decode cL_law 1738 = .ok (.invokevirtual 237, 3) := by decide +kernel
theorem dL_law_1741 : decode cL_law 1741 = .ok (.lconst 1, 1) := by decide +kernel
theorem dL_law_1742 : decode cL_law 1742 = .ok (.lcmp, 1) := by decide +kernel
theorem dL_law_1743 : decode cL_law 1743 = .ok (.ifCond .ge 5, 3) := by decide +kernel
theorem dL_law_1746 : decode cL_law 1746 = .ok (.iconst 0, 1) := by decide +kernel
theorem dL_law_1747 : decode cL_law 1747 = .ok (.ireturn, 1) := by decide +kernel
theorem dL_law_1748 : decode cL_law 1748 = .ok (.iload 6, 2) := by decide +kernel
theorem dL_law_1750 : decode cL_law 1750 = .ok (.iconst 3, 1) := by decide +kernel
theorem dL_law_1751 : decode cL_law 1751 = .ok (.ishr, 1) := by decide +kernel
theorem dL_law_1752 : decode cL_law 1752 = .ok (.ldc 241, 2) := by decide +kernel
theorem dL_law_1754 : decode cL_law 1754 = .ok (.iand, 1) := by decide +kernel
theorem dL_law_1755 : decode cL_law 1755 = .ok (.istore 10, 2) := by decide +kernel
theorem dL_law_1757 : decode cL_law 1757 = .ok (.aload_n 1, 1) := by decide +kernel
theorem dL_law_1758 : decode cL_law 1758 = .ok (.iload 10, 2) := by decide +kernel
theorem dL_law_1760 : decode cL_law 1760 = .ok (.iload 9, 2) := by decide +kernel
theorem dL_law_1762 : decode cL_law 1762 = .ok (.invokevirtual 242, 3) := by decide +kernel
theorem dL_law_1765 : decode cL_law 1765 = .ok (.istore 11, 2) := by decide +kernel
theorem dL_law_1767 : decode cL_law 1767 = .ok (.aload_n 1, 1) := by decide +kernel
theorem dL_law_1768 : decode cL_law 1768 = .ok (.iload 10, 2) := by decide +kernel
theorem dL_law_1770 : decode cL_law 1770 = .ok (.iload 9, 2) := by decide +kernel
theorem dL_law_1772 : decode cL_law 1772 = .ok (.invokevirtual 245, 3) := by decide +kernel
theorem dL_law_1775 : decode cL_law 1775 = .ok (.istore 12, 2) := by decide +kernel
theorem dL_law_1777 : decode cL_law 1777 = .ok (.iload 11, 2) := by decide +kernel
theorem dL_law_1779 : decode cL_law 1779 = .ok (.iconst 1, 1) := by decide +kernel
theorem dL_law_1780 : decode cL_law 1780 = .ok (.iload 9, 2) := by decide +kernel
theorem dL_law_1782 : decode cL_law 1782 = .ok (.iconst 1, 1) := by decide +kernel
theorem dL_law_1783 : decode cL_law 1783 = .ok (.isub, 1) := by decide +kernel
theorem dL_law_1784 : decode cL_law 1784 = .ok (.ishl, 1) := by decide +kernel
theorem dL_law_1785 : decode cL_law 1785 = .ok (.if_icmp .lt 57, 3) := by decide +kernel
theorem dL_law_1788 : decode cL_law 1788 = .ok (.iload 11, 2) := by decide +kernel
theorem dL_law_1790 : decode cL_law 1790 = .ok (.iconst 1, 1) := by decide +kernel
theorem dL_law_1791 : decode cL_law 1791 = .ok (.iload 9, 2) := by decide +kernel
theorem dL_law_1793 : decode cL_law 1793 = .ok (.ishl, 1) := by decide +kernel
theorem dL_law_1794 : decode cL_law 1794 = .ok (.if_icmp .ge 48, 3) := by decide +kernel
theorem dL_law_1797 : decode cL_law 1797 = .ok (.iload 12, 2) := by decide +kernel
theorem dL_law_1799 : decode cL_law 1799 = .ok (.iconst 1, 1) := by decide +kernel
theorem dL_law_1800 : decode cL_law 1800 = .ok (.if_icmp .lt 42, 3) := by decide +kernel
theorem dL_law_1803 : decode cL_law 1803 = .ok (.iload 12, 2) := by decide +kernel
theorem dL_law_1805 : decode cL_law 1805 = .ok (.iload 9, 2) := by decide +kernel
theorem dL_law_1807 : decode cL_law 1807 = .ok (.if_icmp .gt 35, 3) := by decide +kernel
theorem dL_law_1810 : decode cL_law 1810 = .ok (.aload_n 1, 1) := by decide +kernel
theorem dL_law_1811 : decode cL_law 1811 = .ok (.iload 10, 2) := by decide +kernel
theorem dL_law_1813 : decode cL_law 1813 = .ok (.iload 9, 2) := by decide +kernel
theorem dL_law_1815 : decode cL_law 1815 = .ok (.iconst 1, 1) := by decide +kernel
theorem dL_law_1816 : decode cL_law 1816 = .ok (.iadd, 1) := by decide +kernel
theorem dL_law_1817 : decode cL_law 1817 = .ok (.invokevirtual 245, 3) := by decide +kernel
theorem dL_law_1820 : decode cL_law 1820 = .ok (.iload 12, 2) := by decide +kernel
theorem dL_law_1822 : decode cL_law 1822 = .ok (.if_icmp .lt 20, 3) := by decide +kernel
theorem dL_law_1825 : decode cL_law 1825 = .ok (.aload_n 1, 1) := by decide +kernel
theorem dL_law_1826 : decode cL_law 1826 = .ok (.iload 10, 2) := by decide +kernel
theorem dL_law_1828 : decode cL_law 1828 = .ok (.iload 9, 2) := by decide +kernel
theorem dL_law_1830 : decode cL_law 1830 = .ok (.iconst 1, 1) := by decide +kernel
theorem dL_law_1831 : decode cL_law 1831 = .ok (.iadd, 1) := by decide +kernel
theorem dL_law_1832 : decode cL_law 1832 = .ok (.invokevirtual 242, 3) := by decide +kernel
theorem dL_law_1835 : decode cL_law 1835 = .ok (.iconst 2, 1) := by decide +kernel
theorem dL_law_1836 : decode cL_law 1836 = .ok (.idiv, 1) := by decide +kernel
theorem dL_law_1837 : decode cL_law 1837 = .ok (.iload 11, 2) := by decide +kernel
theorem dL_law_1839 : decode cL_law 1839 = .ok (.if_icmp .eq 5, 3) := by decide +kernel
theorem dL_law_1842 : decode cL_law 1842 = .ok (.iconst 0, 1) := by decide +kernel
theorem dL_law_1843 : decode cL_law 1843 = .ok (.ireturn, 1) := by decide +kernel
theorem dL_law_1844 : decode cL_law 1844 = .ok (.iconst 0, 1) := by decide +kernel
theorem dL_law_1845 : decode cL_law 1845 = .ok (.istore 13, 2) := by decide +kernel
theorem dL_law_1847 : decode cL_law 1847 = .ok (.iload 13, 2) := by decide +kernel
theorem dL_law_1849 : decode cL_law 1849 = .ok (.iconst 3, 1) := by decide +kernel
theorem dL_law_1850 : decode cL_law 1850 = .ok (.if_icmp .ge 35, 3) := by decide +kernel
theorem dL_law_1853 : decode cL_law 1853 = .ok (.aload_n 1, 1) := by decide +kernel
theorem dL_law_1854 : decode cL_law 1854 = .ok (.aload_n 3, 1) := by decide +kernel
theorem dL_law_1855 : decode cL_law 1855 = .ok (.aload 4, 2) := by decide +kernel
theorem dL_law_1857 : decode cL_law 1857 = .ok (.aload_n 0, 1) := by decide +kernel
theorem dL_law_1858 : decode cL_law 1858 = .ok (.bipush 7, 2) := by decide +kernel
theorem dL_law_1860 : decode cL_law 1860 = .ok (.iconst 3, 1) := by decide +kernel
theorem dL_law_1861 : decode cL_law 1861 = .ok (.iload 5, 2) := by decide +kernel
theorem dL_law_1863 : decode cL_law 1863 = .ok (.imul, 1) := by decide +kernel
theorem dL_law_1864 : decode cL_law 1864 = .ok (.iadd, 1) := by decide +kernel
theorem dL_law_1865 : decode cL_law 1865 = .ok (.iload 13, 2) := by decide +kernel
theorem dL_law_1867 : decode cL_law 1867 = .ok (.iadd, 1) := by decide +kernel
theorem dL_law_1868 : decode cL_law 1868 = .ok (.invokestatic 25, 3) := by decide +kernel
theorem dL_law_1871 : decode cL_law 1871 = .ok (.invokestatic 248, 3) := by decide +kernel
theorem dL_law_1874 : decode cL_law 1874 = .ok (.ifCond .ge 5, 3) := by decide +kernel
theorem dL_law_1877 : decode cL_law 1877 = .ok (.iconst 0, 1) := by decide +kernel
theorem dL_law_1878 : decode cL_law 1878 = .ok (.ireturn, 1) := by decide +kernel
theorem dL_law_1879 : decode cL_law 1879 = .ok (.iinc 13 1, 3) := by decide +kernel
theorem dL_law_1882 : decode cL_law 1882 = .ok (.goto (-35), 3) := by decide +kernel
theorem dL_law_1885 : decode cL_law 1885 = .ok (.iinc 5 1, 3) := by decide +kernel
theorem dL_law_1888 : decode cL_law 1888 = .ok (.goto (-1602), 3) := by decide +kernel
