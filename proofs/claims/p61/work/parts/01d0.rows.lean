theorem dX0_init_0 : decode cX0_init 0 = .ok (.aload_n 0, 1) := by decide +kernel
theorem dX0_init_1 : decode cX0_init 1 = .ok (.invokespecial 3, 3) := by decide +kernel
theorem dX0_init_4 : decode cX0_init 4 = .ok (.aload_n 0, 1) := by decide +kernel
theorem dX0_init_5 : decode cX0_init 5 = .ok (.bipush 16, 2) := by decide +kernel
theorem dX0_init_7 : decode cX0_init 7 = .ok (.newarray .int, 2) := by decide +kernel
theorem dX0_init_9 : decode cX0_init 9 = .ok (.putfield 9, 3) := by decide +kernel
theorem dX0_init_12 : decode cX0_init 12 = .ok (.aload_n 0, 1) := by decide +kernel
theorem dX0_init_13 : decode cX0_init 13 = .ok (.bipush 16, 2) := by decide +kernel
theorem dX0_init_15 : decode cX0_init 15 = .ok (.newarray .int, 2) := by decide +kernel
theorem dX0_init_17 : decode cX0_init 17 = .ok (.putfield 15, 3) := by decide +kernel
theorem dX0_init_20 : decode cX0_init 20 = .ok (.aload_n 0, 1) := by decide +kernel
theorem dX0_init_21 : decode cX0_init 21 = .ok (.bipush 16, 2) := by decide +kernel
theorem dX0_init_23 : decode cX0_init 23 = .ok (.newarray .int, 2) := by decide +kernel
theorem dX0_init_25 : decode cX0_init 25 = .ok (.putfield 18, 3) := by decide +kernel
theorem dX0_init_28 : decode cX0_init 28 = .ok (.return_, 1) := by decide +kernel
set_option maxRecDepth 20000 in
theorem ggX0_keep_X0_forgetFirst : GoodIn wsX0_keep wsX0_forgetFirst := goodIn_r _ [9, 2, 3, 4, 1, 10, 11, 12, 13, 14, 15, 16, 17, 18] (by decide +kernel) (by decide +kernel)
set_option maxRecDepth 20000 in
theorem gX0_keep_X0_forgetFirst : GoodIn wsX0_keep (wsV RX0 25 RX0 yX0_forgetFirst wsX0_forgetFirst) := goodIn_app (goodIn_of _ (by decide +kernel)) ggX0_keep_X0_forgetFirst
set_option maxRecDepth 20000 in
theorem ggX0_keep_X11_set : GoodIn wsX0_keep wsX11_set := goodIn_r _ [14] (by decide +kernel) (by decide +kernel)
set_option maxRecDepth 20000 in
theorem gX0_keep_X11_set_n28 : GoodIn wsX0_keep (wsX11_set) := ggX0_keep_X11_set
theorem dX0_keep_0 : decode cX0_keep 0 = .ok (.aload_n 0, 1) := by decide +kernel
theorem dX0_keep_1 : decode cX0_keep 1 = .ok (.getfield 21, 3) := by decide +kernel
theorem dX0_keep_4 : decode cX0_keep 4 = .ok (.bipush 16, 2) := by decide +kernel
theorem dX0_keep_6 : decode cX0_keep 6 = .ok (.if_icmp .lt 7, 3) := by decide +kernel
theorem dX0_keep_9 : decode cX0_keep 9 = .ok (.aload_n 0, 1) := by decide +kernel
theorem dX0_keep_10 : decode cX0_keep 10 = .ok (.invokevirtual 25, 3) := by decide +kernel
theorem dX0_keep_13 : decode cX0_keep 13 = .ok (.aload_n 0, 1) := by decide +kernel
theorem dX0_keep_14 : decode cX0_keep 14 = .ok (.getfield 9, 3) := by decide +kernel
theorem dX0_keep_17 : decode cX0_keep 17 = .ok (.aload_n 0, 1) := by decide +kernel
theorem dX0_keep_18 : decode cX0_keep 18 = .ok (.getfield 21, 3) := by decide +kernel
theorem dX0_keep_21 : decode cX0_keep 21 = .ok (.iload_n 1, 1) := by decide +kernel
theorem dX0_keep_22 : decode cX0_keep 22 = .ok (.invokestatic 28, 3) := by decide +kernel
theorem dX0_keep_25 : decode cX0_keep 25 = .ok (.aload_n 0, 1) := by decide +kernel
theorem dX0_keep_26 : decode cX0_keep 26 = .ok (.getfield 15, 3) := by decide +kernel
theorem dX0_keep_29 : decode cX0_keep 29 = .ok (.aload_n 0, 1) := by decide +kernel
theorem dX0_keep_30 : decode cX0_keep 30 = .ok (.getfield 21, 3) := by decide +kernel
theorem dX0_keep_33 : decode cX0_keep 33 = .ok (.iload_n 2, 1) := by decide +kernel
theorem dX0_keep_34 : decode cX0_keep 34 = .ok (.invokestatic 28, 3) := by decide +kernel
theorem dX0_keep_37 : decode cX0_keep 37 = .ok (.aload_n 0, 1) := by decide +kernel
theorem dX0_keep_38 : decode cX0_keep 38 = .ok (.getfield 18, 3) := by decide +kernel
theorem dX0_keep_41 : decode cX0_keep 41 = .ok (.aload_n 0, 1) := by decide +kernel
theorem dX0_keep_42 : decode cX0_keep 42 = .ok (.getfield 21, 3) := by decide +kernel
theorem dX0_keep_45 : decode cX0_keep 45 = .ok (.iload_n 3, 1) := by decide +kernel
theorem dX0_keep_46 : decode cX0_keep 46 = .ok (.invokestatic 28, 3) := by decide +kernel
theorem dX0_keep_49 : decode cX0_keep 49 = .ok (.aload_n 0, 1) := by decide +kernel
theorem dX0_keep_50 : decode cX0_keep 50 = .ok (.dup, 1) := by decide +kernel
theorem dX0_keep_51 : decode cX0_keep 51 = .ok (.getfield 21, 3) := by decide +kernel
theorem dX0_keep_54 : decode cX0_keep 54 = .ok (.iconst 1, 1) := by decide +kernel
theorem dX0_keep_55 : decode cX0_keep 55 = .ok (.iadd, 1) := by decide +kernel
theorem dX0_keep_56 : decode cX0_keep 56 = .ok (.putfield 21, 3) := by decide +kernel
theorem dX0_keep_59 : decode cX0_keep 59 = .ok (.return_, 1) := by decide +kernel
set_option maxRecDepth 20000 in
theorem ggX0_forgetFirst_X11_at : GoodIn wsX0_forgetFirst wsX11_at := goodIn_r _ [7] (by decide +kernel) (by decide +kernel)
set_option maxRecDepth 20000 in
theorem gX0_forgetFirst_X11_at_n32 : GoodIn wsX0_forgetFirst (wsX11_at) := ggX0_forgetFirst_X11_at
set_option maxRecDepth 20000 in
theorem ggX0_forgetFirst_X11_set : GoodIn wsX0_forgetFirst wsX11_set := goodIn_r _ [9] (by decide +kernel) (by decide +kernel)
set_option maxRecDepth 20000 in
theorem gX0_forgetFirst_X11_set_n28 : GoodIn wsX0_forgetFirst (wsX11_set) := ggX0_forgetFirst_X11_set
theorem dX0_forgetFirst_0 : decode cX0_forgetFirst 0 = .ok (.iconst 1, 1) := by decide +kernel
theorem dX0_forgetFirst_1 : decode cX0_forgetFirst 1 = .ok (.istore_n 1, 1) := by decide +kernel
theorem dX0_forgetFirst_2 : decode cX0_forgetFirst 2 = .ok (.iload_n 1, 1) := by decide +kernel
theorem dX0_forgetFirst_3 : decode cX0_forgetFirst 3 = .ok (.bipush 16, 2) := by decide +kernel
theorem dX0_forgetFirst_5 : decode cX0_forgetFirst 5 = .ok (.if_icmp .ge 63, 3) := by decide +kernel
theorem dX0_forgetFirst_8 : decode cX0_forgetFirst 8 = .ok (.aload_n 0, 1) := by decide +kernel
theorem dX0_forgetFirst_9 : decode cX0_forgetFirst 9 = .ok (.getfield 9, 3) := by decide +kernel
theorem dX0_forgetFirst_12 : decode cX0_forgetFirst 12 = .ok (.iload_n 1, 1) := by decide +kernel
theorem dX0_forgetFirst_13 : decode cX0_forgetFirst 13 = .ok (.iconst 1, 1) := by decide +kernel
theorem dX0_forgetFirst_14 : decode cX0_forgetFirst 14 = .ok (.isub, 1) := by decide +kernel
theorem dX0_forgetFirst_15 : decode cX0_forgetFirst 15 = .ok (.aload_n 0, 1) := by decide +kernel
theorem dX0_forgetFirst_16 : decode cX0_forgetFirst 16 = .ok (.getfield 9, 3) := by decide +kernel
theorem dX0_forgetFirst_19 : decode cX0_forgetFirst 19 = .ok (.iload_n 1, 1) := by decide +kernel
theorem dX0_forgetFirst_20 : decode cX0_forgetFirst 20 = .ok (.invokestatic 32, 3) := by decide +kernel
theorem dX0_forgetFirst_23 : decode cX0_forgetFirst 23 = .ok (.invokestatic 28, 3) := by decide +kernel
theorem dX0_forgetFirst_26 : decode cX0_forgetFirst 26 = .ok (.aload_n 0, 1) := by decide +kernel
theorem dX0_forgetFirst_27 : decode cX0_forgetFirst 27 = .ok (.getfield 15, 3) := by decide +kernel
theorem dX0_forgetFirst_30 : decode cX0_forgetFirst 30 = .ok (.iload_n 1, 1) := by decide +kernel
theorem dX0_forgetFirst_31 : decode cX0_forgetFirst 31 = .ok (.iconst 1, 1) := by decide +kernel
theorem dX0_forgetFirst_32 : decode cX0_forgetFirst 32 = .ok (.isub, 1) := by decide +kernel
theorem dX0_forgetFirst_33 : decode cX0_forgetFirst 33 = .ok (.aload_n 0, 1) := by decide +kernel
theorem dX0_forgetFirst_34 : decode cX0_forgetFirst 34 = .ok (.getfield 15, 3) := by decide +kernel
theorem dX0_forgetFirst_37 : decode cX0_forgetFirst 37 = .ok (.iload_n 1, 1) := by decide +kernel
theorem dX0_forgetFirst_38 : decode cX0_forgetFirst 38 = .ok (.invokestatic 32, 3) := by decide +kernel
theorem dX0_forgetFirst_41 : decode cX0_forgetFirst 41 = .ok (.invokestatic 28, 3) := by decide +kernel
theorem dX0_forgetFirst_44 : decode cX0_forgetFirst 44 = .ok (.aload_n 0, 1) := by decide +kernel
theorem dX0_forgetFirst_45 : decode cX0_forgetFirst 45 = .ok (.getfield 18, 3) := by decide +kernel
theorem dX0_forgetFirst_48 : decode cX0_forgetFirst 48 = .ok (.iload_n 1, 1) := by decide +kernel
theorem dX0_forgetFirst_49 : decode cX0_forgetFirst 49 = .ok (.iconst 1, 1) := by decide +kernel
theorem dX0_forgetFirst_50 : decode cX0_forgetFirst 50 = .ok (.isub, 1) := by decide +kernel
theorem dX0_forgetFirst_51 : decode cX0_forgetFirst 51 = .ok (.aload_n 0, 1) := by decide +kernel
theorem dX0_forgetFirst_52 : decode cX0_forgetFirst 52 = .ok (.getfield 18, 3) := by decide +kernel
theorem dX0_forgetFirst_55 : decode cX0_forgetFirst 55 = .ok (.iload_n 1, 1) := by decide +kernel
theorem dX0_forgetFirst_56 : decode cX0_forgetFirst 56 = .ok (.invokestatic 32, 3) := by decide +kernel
theorem dX0_forgetFirst_59 : decode cX0_forgetFirst 59 = .ok (.invokestatic 28, 3) := by decide +kernel
theorem dX0_forgetFirst_62 : decode cX0_forgetFirst 62 = .ok (.iinc 1 1, 3) := by decide +kernel
theorem dX0_forgetFirst_65 : decode cX0_forgetFirst 65 = .ok (.goto (-63), 3) := by decide +kernel
theorem dX0_forgetFirst_68 : decode cX0_forgetFirst 68 = .ok (.aload_n 0, 1) := by decide +kernel
theorem dX0_forgetFirst_69 : decode cX0_forgetFirst 69 = .ok (.bipush 15, 2) := by decide +kernel
theorem dX0_forgetFirst_71 : decode cX0_forgetFirst 71 = .ok (.putfield 21, 3) := by decide +kernel
theorem dX0_forgetFirst_74 : decode cX0_forgetFirst 74 = .ok (.return_, 1) := by decide +kernel
set_option maxRecDepth 20000 in
theorem ggX0_takeBack_X11_at : GoodIn wsX0_takeBack wsX11_at := goodIn_r _ [7] (by decide +kernel) (by decide +kernel)
set_option maxRecDepth 20000 in
theorem gX0_takeBack_X11_at_n32 : GoodIn wsX0_takeBack (wsX11_at) := ggX0_takeBack_X11_at
set_option maxRecDepth 20000 in
theorem ggX0_takeBack_X9_put : GoodIn wsX0_takeBack wsX9_put := goodIn_r _ [12, 13, 14, 15, 6, 16, 21, 22, 23] (by decide +kernel) (by decide +kernel)
set_option maxRecDepth 20000 in
theorem gX0_takeBack_X9_put : GoodIn wsX0_takeBack (wsV RX0 36 RX9 yX9_put wsX9_put) := goodIn_app (goodIn_of _ (by decide +kernel)) ggX0_takeBack_X9_put
theorem dX0_takeBack_0 : decode cX0_takeBack 0 = .ok (.aload_n 0, 1) := by decide +kernel
theorem dX0_takeBack_1 : decode cX0_takeBack 1 = .ok (.getfield 21, 3) := by decide +kernel
theorem dX0_takeBack_4 : decode cX0_takeBack 4 = .ok (.ifCond .le 50, 3) := by decide +kernel
theorem dX0_takeBack_7 : decode cX0_takeBack 7 = .ok (.aload_n 0, 1) := by decide +kernel
theorem dX0_takeBack_8 : decode cX0_takeBack 8 = .ok (.dup, 1) := by decide +kernel
theorem dX0_takeBack_9 : decode cX0_takeBack 9 = .ok (.getfield 21, 3) := by decide +kernel
theorem dX0_takeBack_12 : decode cX0_takeBack 12 = .ok (.iconst 1, 1) := by decide +kernel
theorem dX0_takeBack_13 : decode cX0_takeBack 13 = .ok (.isub, 1) := by decide +kernel
theorem dX0_takeBack_14 : decode cX0_takeBack 14 = .ok (.putfield 21, 3) := by decide +kernel
theorem dX0_takeBack_17 : decode cX0_takeBack 17 = .ok (.aload_n 1, 1) := by decide +kernel
theorem dX0_takeBack_18 : decode cX0_takeBack 18 = .ok (.aload_n 0, 1) := by decide +kernel
theorem dX0_takeBack_19 : decode cX0_takeBack 19 = .ok (.getfield 9, 3) := by decide +kernel
theorem dX0_takeBack_22 : decode cX0_takeBack 22 = .ok (.aload_n 0, 1) := by decide +kernel
theorem dX0_takeBack_23 : decode cX0_takeBack 23 = .ok (.getfield 21, 3) := by decide +kernel
theorem dX0_takeBack_26 : decode cX0_takeBack 26 = .ok (.invokestatic 32, 3) := by decide +kernel
theorem dX0_takeBack_29 : decode cX0_takeBack 29 = .ok (.aload_n 0, 1) := by decide +kernel
theorem dX0_takeBack_30 : decode cX0_takeBack 30 = .ok (.getfield 15, 3) := by decide +kernel
theorem dX0_takeBack_33 : decode cX0_takeBack 33 = .ok (.aload_n 0, 1) := by decide +kernel
theorem dX0_takeBack_34 : decode cX0_takeBack 34 = .ok (.getfield 21, 3) := by decide +kernel
theorem dX0_takeBack_37 : decode cX0_takeBack 37 = .ok (.invokestatic 32, 3) := by decide +kernel
theorem dX0_takeBack_40 : decode cX0_takeBack 40 = .ok (.aload_n 0, 1) := by decide +kernel
theorem dX0_takeBack_41 : decode cX0_takeBack 41 = .ok (.getfield 18, 3) := by decide +kernel
theorem dX0_takeBack_44 : decode cX0_takeBack 44 = .ok (.aload_n 0, 1) := by decide +kernel
theorem dX0_takeBack_45 : decode cX0_takeBack 45 = .ok (.getfield 21, 3) := by decide +kernel
theorem dX0_takeBack_48 : decode cX0_takeBack 48 = .ok (.invokestatic 32, 3) := by decide +kernel
theorem dX0_takeBack_51 : decode cX0_takeBack 51 = .ok (.invokevirtual 36, 3) := by decide +kernel
theorem dX0_takeBack_54 : decode cX0_takeBack 54 = .ok (.return_, 1) := by decide +kernel
set_option maxRecDepth 20000 in
theorem ggX1_of_X1_areAllSo : GoodIn wsX1_of wsX1_areAllSo := goodIn_r _ [4, 5, 6, 3, 7, 8, 9, 10, 11, 12, 13, 14, 15, 16, 17, 18, 19, 20, 21, 22, 23, 24, 25, 26, 27, 28, 29, 30, 31, 32, 33, 34, 35, 36, 37, 38, 39, 40, 41, 42, 43, 44, 45, 46, 47, 48, 49, 50, 51, 52, 53, 54, 55, 56, 57, 58, 59, 60, 61, 62, 63, 64, 65, 66, 67, 68, 69, 70, 71, 72, 73, 74, 75, 76, 77, 78, 79] (by decide +kernel) (by decide +kernel)
set_option maxRecDepth 20000 in
theorem gX1_of_X1_areAllSo : GoodIn wsX1_of (va_wsS RX1 15 yX1_areAllSo wsX1_areAllSo) := goodIn_app (goodIn_of _ (by decide +kernel)) ggX1_of_X1_areAllSo
theorem dX1_of_0 : decode cX1_of 0 = .ok (.iconst 0, 1) := by decide +kernel
theorem dX1_of_1 : decode cX1_of 1 = .ok (.istore_n 1, 1) := by decide +kernel
theorem dX1_of_2 : decode cX1_of 2 = .ok (.iconst 0, 1) := by decide +kernel
theorem dX1_of_3 : decode cX1_of 3 = .ok (.istore_n 2, 1) := by decide +kernel
theorem dX1_of_4 : decode cX1_of 4 = .ok (.iload_n 2, 1) := by decide +kernel
theorem dX1_of_5 : decode cX1_of 5 = .ok (.iconst 1, 1) := by decide +kernel
theorem dX1_of_6 : decode cX1_of 6 = .ok (.aload_n 0, 1) := by decide +kernel
theorem dX1_of_7 : decode cX1_of 7 = .ok (.getfield 9, 3) := by decide +kernel
theorem dX1_of_10 : decode cX1_of 10 = .ok (.ishl, 1) := by decide +kernel
theorem dX1_of_11 : decode cX1_of 11 = .ok (.if_icmp .ge 27, 3) := by decide +kernel
theorem dX1_of_14 : decode cX1_of 14 = .ok (.iload_n 1, 1) := by decide +kernel
theorem dX1_of_15 : decode cX1_of 15 = .ok (.aload_n 0, 1) := by decide +kernel
theorem dX1_of_16 : decode cX1_of 16 = .ok (.iload_n 2, 1) := by decide +kernel
theorem dX1_of_17 : decode cX1_of 17 = .ok (.invokestatic 15, 3) := by decide +kernel
theorem dX1_of_20 : decode cX1_of 20 = .ok (.ifCond .eq 9, 3) := by decide +kernel
theorem dX1_of_23 : decode cX1_of 23 = .ok (.iconst 1, 1) := by decide +kernel
theorem dX1_of_24 : decode cX1_of 24 = .ok (.iload_n 2, 1) := by decide +kernel
theorem dX1_of_25 : decode cX1_of 25 = .ok (.ishl, 1) := by decide +kernel
theorem dX1_of_26 : decode cX1_of 26 = .ok (.goto 4, 3) := by decide +kernel
theorem dX1_of_29 : decode cX1_of 29 = .ok (.iconst 0, 1) := by decide +kernel
theorem dX1_of_30 : decode cX1_of 30 = .ok (.ior, 1) := by decide +kernel
theorem dX1_of_31 : decode cX1_of 31 = .ok (.istore_n 1, 1) := by decide +kernel
theorem dX1_of_32 : decode cX1_of 32 = .ok (.iinc 2 1, 3) := by decide +kernel
theorem dX1_of_35 : decode cX1_of 35 = .ok (.goto (-31), 3) := by decide +kernel
theorem dX1_of_38 : decode cX1_of 38 = .ok (.iload_n 1, 1) := by decide +kernel
theorem dX1_of_39 : decode cX1_of 39 = .ok (.ireturn, 1) := by decide +kernel
set_option maxRecDepth 20000 in
theorem ggX1_areAllSo_X1_isSo : GoodIn wsX1_areAllSo wsX1_isSo := goodIn_r _ [4, 5, 6, 7, 8, 9, 10, 11, 12, 13, 14, 15, 3, 16, 17, 18, 19, 20, 21, 22, 23, 24, 25, 26, 27, 28, 29, 30, 31, 32, 33, 34, 35, 36, 37, 38, 39, 40, 41, 42, 43, 44, 45, 46, 47, 48, 49, 50, 51, 52, 53, 54, 55, 56, 57, 58, 59, 60, 61, 62, 63, 64, 65, 66, 67, 68, 69, 70, 71, 72, 73, 74, 75, 76] (by decide +kernel) (by decide +kernel)
set_option maxRecDepth 20000 in
theorem gX1_areAllSo_X1_isSo : GoodIn wsX1_areAllSo (va_wsS RX1 24 yX1_isSo wsX1_isSo) := goodIn_app (goodIn_of _ (by decide +kernel)) ggX1_areAllSo_X1_isSo
theorem dX1_areAllSo_0 : decode cX1_areAllSo 0 = .ok (.iconst 0, 1) := by decide +kernel
theorem dX1_areAllSo_1 : decode cX1_areAllSo 1 = .ok (.istore_n 2, 1) := by decide +kernel
theorem dX1_areAllSo_2 : decode cX1_areAllSo 2 = .ok (.iload_n 2, 1) := by decide +kernel
theorem dX1_areAllSo_3 : decode cX1_areAllSo 3 = .ok (.aload_n 0, 1) := by decide +kernel
theorem dX1_areAllSo_4 : decode cX1_areAllSo 4 = .ok (.getfield 21, 3) := by decide +kernel
theorem dX1_areAllSo_7 : decode cX1_areAllSo 7 = .ok (.if_icmp .ge 20, 3) := by decide +kernel
theorem dX1_areAllSo_10 : decode cX1_areAllSo 10 = .ok (.aload_n 0, 1) := by decide +kernel
theorem dX1_areAllSo_11 : decode cX1_areAllSo 11 = .ok (.iload_n 2, 1) := by decide +kernel
theorem dX1_areAllSo_12 : decode cX1_areAllSo 12 = .ok (.iload_n 1, 1) := by decide +kernel
theorem dX1_areAllSo_13 : decode cX1_areAllSo 13 = .ok (.invokestatic 24, 3) := by decide +kernel
theorem dX1_areAllSo_16 : decode cX1_areAllSo 16 = .ok (.ifCond .ne 5, 3) := by decide +kernel
theorem dX1_areAllSo_19 : decode cX1_areAllSo 19 = .ok (.iconst 0, 1) := by decide +kernel
theorem dX1_areAllSo_20 : decode cX1_areAllSo 20 = .ok (.ireturn, 1) := by decide +kernel
theorem dX1_areAllSo_21 : decode cX1_areAllSo 21 = .ok (.iinc 2 1, 3) := by decide +kernel
theorem dX1_areAllSo_24 : decode cX1_areAllSo 24 = .ok (.goto (-22), 3) := by decide +kernel
theorem dX1_areAllSo_27 : decode cX1_areAllSo 27 = .ok (.iconst 1, 1) := by decide +kernel
theorem dX1_areAllSo_28 : decode cX1_areAllSo 28 = .ok (.ireturn, 1) := by decide +kernel
set_option maxRecDepth 20000 in
theorem ggX1_isSo_X11_at : GoodIn wsX1_isSo wsX11_at := goodIn_r _ [3] (by decide +kernel) (by decide +kernel)
set_option maxRecDepth 20000 in
theorem gX1_isSo_X11_at_n32 : GoodIn wsX1_isSo (wsX11_at) := ggX1_isSo_X11_at
set_option maxRecDepth 20000 in
theorem ggX1_isSo_X9_steps : GoodIn wsX1_isSo wsX9_steps := goodIn_r _ [8, 9, 1, 2, 3, 71, 72, 73] (by decide +kernel) (by decide +kernel)
set_option maxRecDepth 20000 in
theorem gX1_isSo_X9_steps : GoodIn wsX1_isSo (wsV RX1 40 RX9 yX9_steps wsX9_steps) := goodIn_app (goodIn_of _ (by decide +kernel)) ggX1_isSo_X9_steps
set_option maxRecDepth 20000 in
theorem ggX1_isSo_X1_rowWith : GoodIn wsX1_isSo wsX1_rowWith := goodIn_r _ [13, 14, 15, 16, 7, 17, 18, 1, 2, 3, 4, 5, 6, 8, 9, 19, 20, 12, 21, 22, 23, 24, 25, 57, 58, 59, 60, 61, 62, 63, 64, 65, 66, 67, 68, 69, 70, 71, 72, 73] (by decide +kernel) (by decide +kernel)
set_option maxRecDepth 20000 in
theorem gX1_isSo_X1_rowWith : GoodIn wsX1_isSo (va_wsS RX1 46 yX1_rowWith wsX1_rowWith) := goodIn_app (goodIn_of _ (by decide +kernel)) ggX1_isSo_X1_rowWith
set_option maxRecDepth 20000 in
theorem ggX1_isSo_X8_layersAlike : GoodIn wsX1_isSo wsX8_layersAlike := goodIn_r _ [28, 29, 30, 24, 31, 32, 33, 34, 35, 36, 37, 38, 39, 40, 41, 42, 43, 44, 45, 46, 47, 48, 49, 50, 51, 52, 53, 54, 55, 56] (by decide +kernel) (by decide +kernel)
set_option maxRecDepth 20000 in
theorem gX1_isSo_X8_layersAlike : GoodIn wsX1_isSo (va_wsS RX1 53 yX8_layersAlike wsX8_layersAlike) := goodIn_app (goodIn_of _ (by decide +kernel)) ggX1_isSo_X8_layersAlike
theorem dX1_isSo_0 : decode cX1_isSo 0 = .ok (.aload_n 0, 1) := by decide +kernel
theorem dX1_isSo_1 : decode cX1_isSo 1 = .ok (.getfield 28, 3) := by decide +kernel
theorem dX1_isSo_4 : decode cX1_isSo 4 = .ok (.iload_n 1, 1) := by decide +kernel
theorem dX1_isSo_5 : decode cX1_isSo 5 = .ok (.invokestatic 32, 3) := by decide +kernel
theorem dX1_isSo_8 : decode cX1_isSo 8 = .ok (.istore_n 3, 1) := by decide +kernel
theorem dX1_isSo_9 : decode cX1_isSo 9 = .ok (.aload_n 0, 1) := by decide +kernel
theorem dX1_isSo_10 : decode cX1_isSo 10 = .ok (.getfield 36, 3) := by decide +kernel
theorem dX1_isSo_13 : decode cX1_isSo 13 = .ok (.iload_n 3, 1) := by decide +kernel
theorem dX1_isSo_14 : decode cX1_isSo 14 = .ok (.invokevirtual 40, 3) := by decide +kernel
theorem dX1_isSo_17 : decode cX1_isSo 17 = .ok (.istore 4, 2) := by decide +kernel
theorem dX1_isSo_19 : decode cX1_isSo 19 = .ok (.aload_n 0, 1) := by decide +kernel
theorem dX1_isSo_20 : decode cX1_isSo 20 = .ok (.iload_n 3, 1) := by decide +kernel
theorem dX1_isSo_21 : decode cX1_isSo 21 = .ok (.iload_n 2, 1) := by decide +kernel
theorem dX1_isSo_22 : decode cX1_isSo 22 = .ok (.invokestatic 46, 3) := by decide +kernel
theorem dX1_isSo_25 : decode cX1_isSo 25 = .ok (.istore 5, 2) := by decide +kernel
theorem dX1_isSo_27 : decode cX1_isSo 27 = .ok (.iload 5, 2) := by decide +kernel
theorem dX1_isSo_29 : decode cX1_isSo 29 = .ok (.iload 4, 2) := by decide +kernel
theorem dX1_isSo_31 : decode cX1_isSo 31 = .ok (.aload_n 0, 1) := by decide +kernel
theorem dX1_isSo_32 : decode cX1_isSo 32 = .ok (.getfield 50, 3) := by decide +kernel
theorem dX1_isSo_35 : decode cX1_isSo 35 = .ok (.iload_n 1, 1) := by decide +kernel
theorem dX1_isSo_36 : decode cX1_isSo 36 = .ok (.invokestatic 32, 3) := by decide +kernel
theorem dX1_isSo_39 : decode cX1_isSo 39 = .ok (.invokestatic 53, 3) := by decide +kernel
theorem dX1_isSo_42 : decode cX1_isSo 42 = .ok (.aload_n 0, 1) := by decide +kernel
theorem dX1_isSo_43 : decode cX1_isSo 43 = .ok (.getfield 59, 3) := by decide +kernel
theorem dX1_isSo_46 : decode cX1_isSo 46 = .ok (.iload_n 1, 1) := by decide +kernel
theorem dX1_isSo_47 : decode cX1_isSo 47 = .ok (.invokestatic 32, 3) := by decide +kernel
theorem dX1_isSo_50 : decode cX1_isSo 50 = .ok (.if_icmp .ne 7, 3) := by decide +kernel
theorem dX1_isSo_53 : decode cX1_isSo 53 = .ok (.iconst 1, 1) := by decide +kernel
theorem dX1_isSo_54 : decode cX1_isSo 54 = .ok (.goto 4, 3) := by decide +kernel
theorem dX1_isSo_57 : decode cX1_isSo 57 = .ok (.iconst 0, 1) := by decide +kernel
theorem dX1_isSo_58 : decode cX1_isSo 58 = .ok (.ireturn, 1) := by decide +kernel
set_option maxRecDepth 20000 in
theorem ggX1_rowWith_X9_row : GoodIn wsX1_rowWith wsX9_row := goodIn_r _ [5, 6, 7, 8, 9, 37, 38, 39] (by decide +kernel) (by decide +kernel)
set_option maxRecDepth 20000 in
theorem gX1_rowWith_X9_row : GoodIn wsX1_rowWith (wsV RX1 62 RX9 yX9_row wsX9_row) := goodIn_app (goodIn_of _ (by decide +kernel)) ggX1_rowWith_X9_row
set_option maxRecDepth 20000 in
theorem ggX1_rowWith_X9_steps : GoodIn wsX1_rowWith wsX9_steps := goodIn_r _ [13, 14, 7, 8, 9, 37, 38, 39] (by decide +kernel) (by decide +kernel)
set_option maxRecDepth 20000 in
theorem gX1_rowWith_X9_steps : GoodIn wsX1_rowWith (wsV RX1 40 RX9 yX9_steps wsX9_steps) := goodIn_app (goodIn_of _ (by decide +kernel)) ggX1_rowWith_X9_steps
set_option maxRecDepth 20000 in
theorem ggX1_rowWith_X1_has : GoodIn wsX1_rowWith wsX1_has := goodIn_r _ [18] (by decide +kernel) (by decide +kernel)
set_option maxRecDepth 20000 in
theorem gX1_rowWith_X1_has : GoodIn wsX1_rowWith (va_wsS RX1 65 yX1_has wsX1_has) := goodIn_app (goodIn_of _ (by decide +kernel)) ggX1_rowWith_X1_has
set_option maxRecDepth 20000 in
theorem ggX1_rowWith_X11_at : GoodIn wsX1_rowWith wsX11_at := goodIn_r _ [9] (by decide +kernel) (by decide +kernel)
set_option maxRecDepth 20000 in
theorem gX1_rowWith_X11_at_n32 : GoodIn wsX1_rowWith (wsX11_at) := ggX1_rowWith_X11_at
set_option maxRecDepth 20000 in
theorem ggX1_rowWith_X8_bit : GoodIn wsX1_rowWith wsX8_bit := goodIn_r _ [22] (by decide +kernel) (by decide +kernel)
set_option maxRecDepth 20000 in
theorem gX1_rowWith_X8_bit : GoodIn wsX1_rowWith (va_wsS RX1 75 yX8_bit wsX8_bit) := goodIn_app (goodIn_of _ (by decide +kernel)) ggX1_rowWith_X8_bit
theorem dX1_rowWith_0 : decode cX1_rowWith 0 = .ok (.aload_n 0, 1) := by decide +kernel
theorem dX1_rowWith_1 : decode cX1_rowWith 1 = .ok (.getfield 36, 3) := by decide +kernel
theorem dX1_rowWith_4 : decode cX1_rowWith 4 = .ok (.iload_n 1, 1) := by decide +kernel
theorem dX1_rowWith_5 : decode cX1_rowWith 5 = .ok (.invokevirtual 62, 3) := by decide +kernel
theorem dX1_rowWith_8 : decode cX1_rowWith 8 = .ok (.istore_n 3, 1) := by decide +kernel
theorem dX1_rowWith_9 : decode cX1_rowWith 9 = .ok (.aload_n 0, 1) := by decide +kernel
theorem dX1_rowWith_10 : decode cX1_rowWith 10 = .ok (.getfield 36, 3) := by decide +kernel
theorem dX1_rowWith_13 : decode cX1_rowWith 13 = .ok (.iload_n 1, 1) := by decide +kernel
theorem dX1_rowWith_14 : decode cX1_rowWith 14 = .ok (.invokevirtual 40, 3) := by decide +kernel
theorem dX1_rowWith_17 : decode cX1_rowWith 17 = .ok (.istore 4, 2) := by decide +kernel
theorem dX1_rowWith_19 : decode cX1_rowWith 19 = .ok (.iconst 0, 1) := by decide +kernel
theorem dX1_rowWith_20 : decode cX1_rowWith 20 = .ok (.istore 5, 2) := by decide +kernel
theorem dX1_rowWith_22 : decode cX1_rowWith 22 = .ok (.iload 5, 2) := by decide +kernel
theorem dX1_rowWith_24 : decode cX1_rowWith 24 = .ok (.aload_n 0, 1) := by decide +kernel
theorem dX1_rowWith_25 : decode cX1_rowWith 25 = .ok (.getfield 9, 3) := by decide +kernel
theorem dX1_rowWith_28 : decode cX1_rowWith 28 = .ok (.if_icmp .ge 48, 3) := by decide +kernel
theorem dX1_rowWith_31 : decode cX1_rowWith 31 = .ok (.iload_n 2, 1) := by decide +kernel
theorem dX1_rowWith_32 : decode cX1_rowWith 32 = .ok (.iload 5, 2) := by decide +kernel
theorem dX1_rowWith_34 : decode cX1_rowWith 34 = .ok (.invokestatic 65, 3) := by decide +kernel
theorem dX1_rowWith_37 : decode cX1_rowWith 37 = .ok (.ifCond .eq 33, 3) := by decide +kernel
theorem dX1_rowWith_40 : decode cX1_rowWith 40 = .ok (.aload_n 0, 1) := by decide +kernel
theorem dX1_rowWith_41 : decode cX1_rowWith 41 = .ok (.getfield 69, 3) := by decide +kernel
theorem dX1_rowWith_44 : decode cX1_rowWith 44 = .ok (.iload 5, 2) := by decide +kernel
theorem dX1_rowWith_46 : decode cX1_rowWith 46 = .ok (.invokestatic 32, 3) := by decide +kernel
theorem dX1_rowWith_49 : decode cX1_rowWith 49 = .ok (.iload_n 1, 1) := by decide +kernel
theorem dX1_rowWith_50 : decode cX1_rowWith 50 = .ok (.if_icmp .ne 20, 3) := by decide +kernel
theorem dX1_rowWith_53 : decode cX1_rowWith 53 = .ok (.iload_n 3, 1) := by decide +kernel
theorem dX1_rowWith_54 : decode cX1_rowWith 54 = .ok (.iload 4, 2) := by decide +kernel
theorem dX1_rowWith_56 : decode cX1_rowWith 56 = .ok (.aload_n 0, 1) := by decide +kernel
theorem dX1_rowWith_57 : decode cX1_rowWith 57 = .ok (.getfield 72, 3) := by decide +kernel
theorem dX1_rowWith_60 : decode cX1_rowWith 60 = .ok (.iload 5, 2) := by decide +kernel
theorem dX1_rowWith_62 : decode cX1_rowWith 62 = .ok (.invokestatic 32, 3) := by decide +kernel
theorem dX1_rowWith_65 : decode cX1_rowWith 65 = .ok (.invokestatic 75, 3) := by decide +kernel
theorem dX1_rowWith_68 : decode cX1_rowWith 68 = .ok (.ixor, 1) := by decide +kernel
theorem dX1_rowWith_69 : decode cX1_rowWith 69 = .ok (.istore_n 3, 1) := by decide +kernel
theorem dX1_rowWith_70 : decode cX1_rowWith 70 = .ok (.iinc 5 1, 3) := by decide +kernel
theorem dX1_rowWith_73 : decode cX1_rowWith 73 = .ok (.goto (-51), 3) := by decide +kernel
theorem dX1_rowWith_76 : decode cX1_rowWith 76 = .ok (.iload_n 3, 1) := by decide +kernel
theorem dX1_rowWith_77 : decode cX1_rowWith 77 = .ok (.ireturn, 1) := by decide +kernel
theorem dX1_has_0 : decode cX1_has 0 = .ok (.iload_n 0, 1) := by decide +kernel
theorem dX1_has_1 : decode cX1_has 1 = .ok (.iload_n 1, 1) := by decide +kernel
theorem dX1_has_2 : decode cX1_has 2 = .ok (.ishr, 1) := by decide +kernel
theorem dX1_has_3 : decode cX1_has 3 = .ok (.iconst 1, 1) := by decide +kernel
theorem dX1_has_4 : decode cX1_has 4 = .ok (.iand, 1) := by decide +kernel
theorem dX1_has_5 : decode cX1_has 5 = .ok (.ifCond .eq 7, 3) := by decide +kernel
theorem dX1_has_8 : decode cX1_has 8 = .ok (.iconst 1, 1) := by decide +kernel
theorem dX1_has_9 : decode cX1_has 9 = .ok (.goto 4, 3) := by decide +kernel
theorem dX1_has_12 : decode cX1_has 12 = .ok (.iconst 0, 1) := by decide +kernel
theorem dX1_has_13 : decode cX1_has 13 = .ok (.ireturn, 1) := by decide +kernel
set_option maxRecDepth 20000 in
theorem ggX1_setAt_X1_has : GoodIn wsX1_setAt wsX1_has := goodIn_r _ [4] (by decide +kernel) (by decide +kernel)
set_option maxRecDepth 20000 in
theorem gX1_setAt_X1_has : GoodIn wsX1_setAt (va_wsS RX1 65 yX1_has wsX1_has) := goodIn_app (goodIn_of _ (by decide +kernel)) ggX1_setAt_X1_has
theorem dX1_setAt_0 : decode cX1_setAt 0 = .ok (.iconst 0, 1) := by decide +kernel
theorem dX1_setAt_1 : decode cX1_setAt 1 = .ok (.istore_n 2, 1) := by decide +kernel
theorem dX1_setAt_2 : decode cX1_setAt 2 = .ok (.iconst 0, 1) := by decide +kernel
theorem dX1_setAt_3 : decode cX1_setAt 3 = .ok (.istore_n 3, 1) := by decide +kernel
theorem dX1_setAt_4 : decode cX1_setAt 4 = .ok (.iload_n 3, 1) := by decide +kernel
theorem dX1_setAt_5 : decode cX1_setAt 5 = .ok (.bipush 16, 2) := by decide +kernel
theorem dX1_setAt_7 : decode cX1_setAt 7 = .ok (.if_icmp .ge 27, 3) := by decide +kernel
theorem dX1_setAt_10 : decode cX1_setAt 10 = .ok (.iload_n 0, 1) := by decide +kernel
theorem dX1_setAt_11 : decode cX1_setAt 11 = .ok (.iload_n 3, 1) := by decide +kernel
theorem dX1_setAt_12 : decode cX1_setAt 12 = .ok (.invokestatic 65, 3) := by decide +kernel
theorem dX1_setAt_15 : decode cX1_setAt 15 = .ok (.ifCond .eq 13, 3) := by decide +kernel
theorem dX1_setAt_18 : decode cX1_setAt 18 = .ok (.iload_n 2, 1) := by decide +kernel
theorem dX1_setAt_19 : decode cX1_setAt 19 = .ok (.iload_n 1, 1) := by decide +kernel
theorem dX1_setAt_20 : decode cX1_setAt 20 = .ok (.if_icmp .ne 5, 3) := by decide +kernel
theorem dX1_setAt_23 : decode cX1_setAt 23 = .ok (.iload_n 3, 1) := by decide +kernel
theorem dX1_setAt_24 : decode cX1_setAt 24 = .ok (.ireturn, 1) := by decide +kernel
theorem dX1_setAt_25 : decode cX1_setAt 25 = .ok (.iinc 2 1, 3) := by decide +kernel
theorem dX1_setAt_28 : decode cX1_setAt 28 = .ok (.iinc 3 1, 3) := by decide +kernel
theorem dX1_setAt_31 : decode cX1_setAt 31 = .ok (.goto (-27), 3) := by decide +kernel
theorem dX1_setAt_34 : decode cX1_setAt 34 = .ok (.iconst (-1), 1) := by decide +kernel
theorem dX1_setAt_35 : decode cX1_setAt 35 = .ok (.ireturn, 1) := by decide +kernel
set_option maxRecDepth 20000 in
theorem ggX1_inSome_X1_has : GoodIn wsX1_inSome wsX1_has := goodIn_r _ [4] (by decide +kernel) (by decide +kernel)
set_option maxRecDepth 20000 in
theorem gX1_inSome_X1_has : GoodIn wsX1_inSome (va_wsS RX1 65 yX1_has wsX1_has) := goodIn_app (goodIn_of _ (by decide +kernel)) ggX1_inSome_X1_has
theorem dX1_inSome_0 : decode cX1_inSome 0 = .ok (.iconst 0, 1) := by decide +kernel
theorem dX1_inSome_1 : decode cX1_inSome 1 = .ok (.istore_n 1, 1) := by decide +kernel
theorem dX1_inSome_2 : decode cX1_inSome 2 = .ok (.iconst 0, 1) := by decide +kernel
theorem dX1_inSome_3 : decode cX1_inSome 3 = .ok (.istore_n 2, 1) := by decide +kernel
theorem dX1_inSome_4 : decode cX1_inSome 4 = .ok (.iload_n 2, 1) := by decide +kernel
theorem dX1_inSome_5 : decode cX1_inSome 5 = .ok (.bipush 16, 2) := by decide +kernel
theorem dX1_inSome_7 : decode cX1_inSome 7 = .ok (.if_icmp .ge 25, 3) := by decide +kernel
theorem dX1_inSome_10 : decode cX1_inSome 10 = .ok (.iload_n 1, 1) := by decide +kernel
theorem dX1_inSome_11 : decode cX1_inSome 11 = .ok (.iload_n 0, 1) := by decide +kernel
theorem dX1_inSome_12 : decode cX1_inSome 12 = .ok (.iload_n 2, 1) := by decide +kernel
theorem dX1_inSome_13 : decode cX1_inSome 13 = .ok (.invokestatic 65, 3) := by decide +kernel
theorem dX1_inSome_16 : decode cX1_inSome 16 = .ok (.ifCond .eq 7, 3) := by decide +kernel
theorem dX1_inSome_19 : decode cX1_inSome 19 = .ok (.iload_n 2, 1) := by decide +kernel
theorem dX1_inSome_20 : decode cX1_inSome 20 = .ok (.goto 4, 3) := by decide +kernel
theorem dX1_inSome_23 : decode cX1_inSome 23 = .ok (.iconst 0, 1) := by decide +kernel
theorem dX1_inSome_24 : decode cX1_inSome 24 = .ok (.ior, 1) := by decide +kernel
theorem dX1_inSome_25 : decode cX1_inSome 25 = .ok (.istore_n 1, 1) := by decide +kernel
theorem dX1_inSome_26 : decode cX1_inSome 26 = .ok (.iinc 2 1, 3) := by decide +kernel
theorem dX1_inSome_29 : decode cX1_inSome 29 = .ok (.goto (-25), 3) := by decide +kernel
theorem dX1_inSome_32 : decode cX1_inSome 32 = .ok (.iload_n 1, 1) := by decide +kernel
theorem dX1_inSome_33 : decode cX1_inSome 33 = .ok (.ireturn, 1) := by decide +kernel
set_option maxRecDepth 20000 in
theorem ggX1_inAll_X1_has : GoodIn wsX1_inAll wsX1_has := goodIn_r _ [4] (by decide +kernel) (by decide +kernel)
set_option maxRecDepth 20000 in
theorem gX1_inAll_X1_has : GoodIn wsX1_inAll (va_wsS RX1 65 yX1_has wsX1_has) := goodIn_app (goodIn_of _ (by decide +kernel)) ggX1_inAll_X1_has
theorem dX1_inAll_0 : decode cX1_inAll 0 = .ok (.iload_n 0, 1) := by decide +kernel
theorem dX1_inAll_1 : decode cX1_inAll 1 = .ok (.ifCond .ne 7, 3) := by decide +kernel
theorem dX1_inAll_4 : decode cX1_inAll 4 = .ok (.iconst 0, 1) := by decide +kernel
theorem dX1_inAll_5 : decode cX1_inAll 5 = .ok (.goto 5, 3) := by decide +kernel
theorem dX1_inAll_8 : decode cX1_inAll 8 = .ok (.bipush 15, 2) := by decide +kernel
theorem dX1_inAll_10 : decode cX1_inAll 10 = .ok (.istore_n 1, 1) := by decide +kernel
theorem dX1_inAll_11 : decode cX1_inAll 11 = .ok (.iconst 0, 1) := by decide +kernel
theorem dX1_inAll_12 : decode cX1_inAll 12 = .ok (.istore_n 2, 1) := by decide +kernel
theorem dX1_inAll_13 : decode cX1_inAll 13 = .ok (.iload_n 2, 1) := by decide +kernel
theorem dX1_inAll_14 : decode cX1_inAll 14 = .ok (.bipush 16, 2) := by decide +kernel
theorem dX1_inAll_16 : decode cX1_inAll 16 = .ok (.if_icmp .ge 25, 3) := by decide +kernel
theorem dX1_inAll_19 : decode cX1_inAll 19 = .ok (.iload_n 1, 1) := by decide +kernel
theorem dX1_inAll_20 : decode cX1_inAll 20 = .ok (.iload_n 0, 1) := by decide +kernel
theorem dX1_inAll_21 : decode cX1_inAll 21 = .ok (.iload_n 2, 1) := by decide +kernel
theorem dX1_inAll_22 : decode cX1_inAll 22 = .ok (.invokestatic 65, 3) := by decide +kernel
theorem dX1_inAll_25 : decode cX1_inAll 25 = .ok (.ifCond .eq 7, 3) := by decide +kernel
theorem dX1_inAll_28 : decode cX1_inAll 28 = .ok (.iload_n 2, 1) := by decide +kernel
theorem dX1_inAll_29 : decode cX1_inAll 29 = .ok (.goto 4, 3) := by decide +kernel
theorem dX1_inAll_32 : decode cX1_inAll 32 = .ok (.iload_n 1, 1) := by decide +kernel
theorem dX1_inAll_33 : decode cX1_inAll 33 = .ok (.iand, 1) := by decide +kernel
theorem dX1_inAll_34 : decode cX1_inAll 34 = .ok (.istore_n 1, 1) := by decide +kernel
theorem dX1_inAll_35 : decode cX1_inAll 35 = .ok (.iinc 2 1, 3) := by decide +kernel
theorem dX1_inAll_38 : decode cX1_inAll 38 = .ok (.goto (-25), 3) := by decide +kernel
theorem dX1_inAll_41 : decode cX1_inAll 41 = .ok (.iload_n 1, 1) := by decide +kernel
theorem dX1_inAll_42 : decode cX1_inAll 42 = .ok (.ireturn, 1) := by decide +kernel
set_option maxRecDepth 20000 in
theorem ggX1_mostLeft_X1_has : GoodIn wsX1_mostLeft wsX1_has := goodIn_r _ [8] (by decide +kernel) (by decide +kernel)
set_option maxRecDepth 20000 in
theorem gX1_mostLeft_X1_has : GoodIn wsX1_mostLeft (va_wsS RX1 65 yX1_has wsX1_has) := goodIn_app (goodIn_of _ (by decide +kernel)) ggX1_mostLeft_X1_has
set_option maxRecDepth 20000 in
theorem ggX1_mostLeft_J6_bitCount_0f7a4 : GoodIn wsX1_mostLeft wsJ6_bitCount_0f7a4 := goodIn_r _ [12, 13, 14, 15] (by decide +kernel) (by decide +kernel)
set_option maxRecDepth 20000 in
theorem gX1_mostLeft_J6_bitCount_0f7a4 : GoodIn wsX1_mostLeft (va_wsS RX1 79 yJ6_bitCount_0f7a4 wsJ6_bitCount_0f7a4) := goodIn_app (goodIn_of _ (by decide +kernel)) ggX1_mostLeft_J6_bitCount_0f7a4
theorem dX1_mostLeft_0 : decode cX1_mostLeft 0 = .ok (.iconst 0, 1) := by decide +kernel
theorem dX1_mostLeft_1 : decode cX1_mostLeft 1 = .ok (.istore_n 2, 1) := by decide +kernel
theorem dX1_mostLeft_2 : decode cX1_mostLeft 2 = .ok (.iconst 0, 1) := by decide +kernel
theorem dX1_mostLeft_3 : decode cX1_mostLeft 3 = .ok (.istore_n 3, 1) := by decide +kernel
theorem dX1_mostLeft_4 : decode cX1_mostLeft 4 = .ok (.iload_n 3, 1) := by decide +kernel
theorem dX1_mostLeft_5 : decode cX1_mostLeft 5 = .ok (.bipush 16, 2) := by decide +kernel
theorem dX1_mostLeft_7 : decode cX1_mostLeft 7 = .ok (.if_icmp .ge 33, 3) := by decide +kernel
theorem dX1_mostLeft_10 : decode cX1_mostLeft 10 = .ok (.iload_n 2, 1) := by decide +kernel
theorem dX1_mostLeft_11 : decode cX1_mostLeft 11 = .ok (.iload_n 0, 1) := by decide +kernel
theorem dX1_mostLeft_12 : decode cX1_mostLeft 12 = .ok (.iload_n 3, 1) := by decide +kernel
theorem dX1_mostLeft_13 : decode cX1_mostLeft 13 = .ok (.invokestatic 65, 3) := by decide +kernel
theorem dX1_mostLeft_16 : decode cX1_mostLeft 16 = .ok (.ifCond .eq 15, 3) := by decide +kernel
theorem dX1_mostLeft_19 : decode cX1_mostLeft 19 = .ok (.iload_n 3, 1) := by decide +kernel
theorem dX1_mostLeft_20 : decode cX1_mostLeft 20 = .ok (.iload_n 1, 1) := by decide +kernel
theorem dX1_mostLeft_21 : decode cX1_mostLeft 21 = .ok (.invokestatic 65, 3) := by decide +kernel
theorem dX1_mostLeft_24 : decode cX1_mostLeft 24 = .ok (.ifCond .eq 7, 3) := by decide +kernel
theorem dX1_mostLeft_27 : decode cX1_mostLeft 27 = .ok (.iconst 1, 1) := by decide +kernel
theorem dX1_mostLeft_28 : decode cX1_mostLeft 28 = .ok (.goto 4, 3) := by decide +kernel
theorem dX1_mostLeft_31 : decode cX1_mostLeft 31 = .ok (.iconst 0, 1) := by decide +kernel
theorem dX1_mostLeft_32 : decode cX1_mostLeft 32 = .ok (.iadd, 1) := by decide +kernel
theorem dX1_mostLeft_33 : decode cX1_mostLeft 33 = .ok (.istore_n 2, 1) := by decide +kernel
theorem dX1_mostLeft_34 : decode cX1_mostLeft 34 = .ok (.iinc 3 1, 3) := by decide +kernel
theorem dX1_mostLeft_37 : decode cX1_mostLeft 37 = .ok (.goto (-33), 3) := by decide +kernel
theorem dX1_mostLeft_40 : decode cX1_mostLeft 40 = .ok (.iload_n 2, 1) := by decide +kernel
theorem dX1_mostLeft_41 : decode cX1_mostLeft 41 = .ok (.iload_n 0, 1) := by decide +kernel
theorem dX1_mostLeft_42 : decode cX1_mostLeft 42 = .ok (.invokestatic 79, 3) := by decide +kernel
theorem dX1_mostLeft_45 : decode cX1_mostLeft 45 = .ok (.iload_n 2, 1) := by decide +kernel
theorem dX1_mostLeft_46 : decode cX1_mostLeft 46 = .ok (.isub, 1) := by decide +kernel
theorem dX1_mostLeft_47 : decode cX1_mostLeft 47 = .ok (.invokestatic 84, 3) := by decide +kernel
theorem dX1_mostLeft_50 : decode cX1_mostLeft 50 = .ok (.ireturn, 1) := by decide +kernel
set_option maxRecDepth 20000 in
theorem ggX1_bestQuestion_X1_mostLeft : GoodIn wsX1_bestQuestion wsX1_mostLeft := goodIn_r _ [4, 5, 6, 7, 8, 9, 10, 3, 11, 12, 13, 14, 15, 16, 17, 18] (by decide +kernel) (by decide +kernel)
set_option maxRecDepth 20000 in
theorem gX1_bestQuestion_X1_mostLeft : GoodIn wsX1_bestQuestion (va_wsS RX1 89 yX1_mostLeft wsX1_mostLeft) := goodIn_app (goodIn_of _ (by decide +kernel)) ggX1_bestQuestion_X1_mostLeft
theorem dX1_bestQuestion_0 : decode cX1_bestQuestion 0 = .ok (.iload_n 0, 1) := by decide +kernel
theorem dX1_bestQuestion_1 : decode cX1_bestQuestion 1 = .ok (.ifCond .eq 7, 3) := by decide +kernel
theorem dX1_bestQuestion_4 : decode cX1_bestQuestion 4 = .ok (.iload_n 1, 1) := by decide +kernel
theorem dX1_bestQuestion_5 : decode cX1_bestQuestion 5 = .ok (.ifCond .ne 6, 3) := by decide +kernel
theorem dX1_bestQuestion_8 : decode cX1_bestQuestion 8 = .ok (.bipush (-2), 2) := by decide +kernel
theorem dX1_bestQuestion_10 : decode cX1_bestQuestion 10 = .ok (.ireturn, 1) := by decide +kernel
theorem dX1_bestQuestion_11 : decode cX1_bestQuestion 11 = .ok (.iconst 0, 1) := by decide +kernel
theorem dX1_bestQuestion_12 : decode cX1_bestQuestion 12 = .ok (.istore_n 2, 1) := by decide +kernel
theorem dX1_bestQuestion_13 : decode cX1_bestQuestion 13 = .ok (.iconst 1, 1) := by decide +kernel
theorem dX1_bestQuestion_14 : decode cX1_bestQuestion 14 = .ok (.istore_n 3, 1) := by decide +kernel
theorem dX1_bestQuestion_15 : decode cX1_bestQuestion 15 = .ok (.iload_n 3, 1) := by decide +kernel
theorem dX1_bestQuestion_16 : decode cX1_bestQuestion 16 = .ok (.iload_n 1, 1) := by decide +kernel
theorem dX1_bestQuestion_17 : decode cX1_bestQuestion 17 = .ok (.if_icmp .ge 24, 3) := by decide +kernel
theorem dX1_bestQuestion_20 : decode cX1_bestQuestion 20 = .ok (.iload_n 0, 1) := by decide +kernel
theorem dX1_bestQuestion_21 : decode cX1_bestQuestion 21 = .ok (.iload_n 3, 1) := by decide +kernel
theorem dX1_bestQuestion_22 : decode cX1_bestQuestion 22 = .ok (.invokestatic 89, 3) := by decide +kernel
theorem dX1_bestQuestion_25 : decode cX1_bestQuestion 25 = .ok (.iload_n 0, 1) := by decide +kernel
theorem dX1_bestQuestion_26 : decode cX1_bestQuestion 26 = .ok (.iload_n 2, 1) := by decide +kernel
theorem dX1_bestQuestion_27 : decode cX1_bestQuestion 27 = .ok (.invokestatic 89, 3) := by decide +kernel
theorem dX1_bestQuestion_30 : decode cX1_bestQuestion 30 = .ok (.if_icmp .ge 5, 3) := by decide +kernel
theorem dX1_bestQuestion_33 : decode cX1_bestQuestion 33 = .ok (.iload_n 3, 1) := by decide +kernel
theorem dX1_bestQuestion_34 : decode cX1_bestQuestion 34 = .ok (.istore_n 2, 1) := by decide +kernel
theorem dX1_bestQuestion_35 : decode cX1_bestQuestion 35 = .ok (.iinc 3 1, 3) := by decide +kernel
theorem dX1_bestQuestion_38 : decode cX1_bestQuestion 38 = .ok (.goto (-23), 3) := by decide +kernel
theorem dX1_bestQuestion_41 : decode cX1_bestQuestion 41 = .ok (.iload_n 2, 1) := by decide +kernel
theorem dX1_bestQuestion_42 : decode cX1_bestQuestion 42 = .ok (.ireturn, 1) := by decide +kernel
theorem dX2_power_0 : decode cX2_power 0 = .ok (.lconst 1, 1) := by decide +kernel
theorem dX2_power_1 : decode cX2_power 1 = .ok (.lstore_n 3, 1) := by decide +kernel
theorem dX2_power_2 : decode cX2_power 2 = .ok (.iconst 0, 1) := by decide +kernel
theorem dX2_power_3 : decode cX2_power 3 = .ok (.istore 5, 2) := by decide +kernel
theorem dX2_power_5 : decode cX2_power 5 = .ok (.iload 5, 2) := by decide +kernel
theorem dX2_power_7 : decode cX2_power 7 = .ok (.iload_n 2, 1) := by decide +kernel
theorem dX2_power_8 : decode cX2_power 8 = .ok (.if_icmp .ge 13, 3) := by decide +kernel
theorem dX2_power_11 : decode cX2_power 11 = .ok (.lload_n 3, 1) := by decide +kernel
theorem dX2_power_12 : decode cX2_power 12 = .ok (.lload_n 0, 1) := by decide +kernel
theorem dX2_power_13 : decode cX2_power 13 = .ok (.lmul, 1) := by decide +kernel
theorem dX2_power_14 : decode cX2_power 14 = .ok (.lstore_n 3, 1) := by decide +kernel
theorem dX2_power_15 : decode cX2_power 15 = .ok (.iinc 5 1, 3) := by decide +kernel
theorem dX2_power_18 : decode cX2_power 18 = .ok (.goto (-13), 3) := by decide +kernel
theorem dX2_power_21 : decode cX2_power 21 = .ok (.lload_n 3, 1) := by decide +kernel
theorem dX2_power_22 : decode cX2_power 22 = .ok (.lreturn, 1) := by decide +kernel
set_option maxRecDepth 20000 in
theorem ggX2_withChanges_X2_power : GoodIn wsX2_withChanges wsX2_power := goodIn_r _ [4] (by decide +kernel) (by decide +kernel)
set_option maxRecDepth 20000 in
theorem gX2_withChanges_X2_power : GoodIn wsX2_withChanges (va_wsS RX2 7 yX2_power wsX2_power) := goodIn_app (goodIn_of _ (by decide +kernel)) ggX2_withChanges_X2_power
theorem dX2_withChanges_0 : decode cX2_withChanges 0 = .ok (.iload_n 0, 1) := by decide +kernel
theorem dX2_withChanges_1 : decode cX2_withChanges 1 = .ok (.i2l, 1) := by decide +kernel
theorem dX2_withChanges_2 : decode cX2_withChanges 2 = .ok (.iload_n 1, 1) := by decide +kernel
theorem dX2_withChanges_3 : decode cX2_withChanges 3 = .ok (.iconst 1, 1) := by decide +kernel
theorem dX2_withChanges_4 : decode cX2_withChanges 4 = .ok (.isub, 1) := by decide +kernel
theorem dX2_withChanges_5 : decode cX2_withChanges 5 = .ok (.iload_n 2, 1) := by decide +kernel
theorem dX2_withChanges_6 : decode cX2_withChanges 6 = .ok (.isub, 1) := by decide +kernel
theorem dX2_withChanges_7 : decode cX2_withChanges 7 = .ok (.invokestatic 7, 3) := by decide +kernel
theorem dX2_withChanges_10 : decode cX2_withChanges 10 = .ok (.bipush 100, 2) := by decide +kernel
theorem dX2_withChanges_12 : decode cX2_withChanges 12 = .ok (.iload_n 0, 1) := by decide +kernel
theorem dX2_withChanges_13 : decode cX2_withChanges 13 = .ok (.isub, 1) := by decide +kernel
theorem dX2_withChanges_14 : decode cX2_withChanges 14 = .ok (.i2l, 1) := by decide +kernel
theorem dX2_withChanges_15 : decode cX2_withChanges 15 = .ok (.iload_n 2, 1) := by decide +kernel
theorem dX2_withChanges_16 : decode cX2_withChanges 16 = .ok (.invokestatic 7, 3) := by decide +kernel
theorem dX2_withChanges_19 : decode cX2_withChanges 19 = .ok (.lmul, 1) := by decide +kernel
theorem dX2_withChanges_20 : decode cX2_withChanges 20 = .ok (.lreturn, 1) := by decide +kernel
set_option maxRecDepth 20000 in
theorem ggX2_upToChanges_X2_withChanges : GoodIn wsX2_upToChanges wsX2_withChanges := goodIn_r _ [4, 5, 6, 3, 7] (by decide +kernel) (by decide +kernel)
set_option maxRecDepth 20000 in
theorem gX2_upToChanges_X2_withChanges : GoodIn wsX2_upToChanges (va_wsS RX2 13 yX2_withChanges wsX2_withChanges) := goodIn_app (goodIn_of _ (by decide +kernel)) ggX2_upToChanges_X2_withChanges
theorem dX2_upToChanges_0 : decode cX2_upToChanges 0 = .ok (.lconst 0, 1) := by decide +kernel
theorem dX2_upToChanges_1 : decode cX2_upToChanges 1 = .ok (.lstore_n 3, 1) := by decide +kernel
theorem dX2_upToChanges_2 : decode cX2_upToChanges 2 = .ok (.lconst 1, 1) := by decide +kernel
theorem dX2_upToChanges_3 : decode cX2_upToChanges 3 = .ok (.lstore 5, 2) := by decide +kernel
theorem dX2_upToChanges_5 : decode cX2_upToChanges 5 = .ok (.iconst 0, 1) := by decide +kernel
theorem dX2_upToChanges_6 : decode cX2_upToChanges 6 = .ok (.istore 7, 2) := by decide +kernel
theorem dX2_upToChanges_8 : decode cX2_upToChanges 8 = .ok (.iload 7, 2) := by decide +kernel
theorem dX2_upToChanges_10 : decode cX2_upToChanges 10 = .ok (.iload_n 2, 1) := by decide +kernel
theorem dX2_upToChanges_11 : decode cX2_upToChanges 11 = .ok (.if_icmp .gt 46, 3) := by decide +kernel
theorem dX2_upToChanges_14 : decode cX2_upToChanges 14 = .ok (.iload 7, 2) := by decide +kernel
theorem dX2_upToChanges_16 : decode cX2_upToChanges 16 = .ok (.iload_n 1, 1) := by decide +kernel
theorem dX2_upToChanges_17 : decode cX2_upToChanges 17 = .ok (.if_icmp .ge 40, 3) := by decide +kernel
theorem dX2_upToChanges_20 : decode cX2_upToChanges 20 = .ok (.lload_n 3, 1) := by decide +kernel
theorem dX2_upToChanges_21 : decode cX2_upToChanges 21 = .ok (.lload 5, 2) := by decide +kernel
theorem dX2_upToChanges_23 : decode cX2_upToChanges 23 = .ok (.iload_n 0, 1) := by decide +kernel
theorem dX2_upToChanges_24 : decode cX2_upToChanges 24 = .ok (.iload_n 1, 1) := by decide +kernel
theorem dX2_upToChanges_25 : decode cX2_upToChanges 25 = .ok (.iload 7, 2) := by decide +kernel
theorem dX2_upToChanges_27 : decode cX2_upToChanges 27 = .ok (.invokestatic 13, 3) := by decide +kernel
theorem dX2_upToChanges_30 : decode cX2_upToChanges 30 = .ok (.lmul, 1) := by decide +kernel
theorem dX2_upToChanges_31 : decode cX2_upToChanges 31 = .ok (.ladd, 1) := by decide +kernel
theorem dX2_upToChanges_32 : decode cX2_upToChanges 32 = .ok (.lstore_n 3, 1) := by decide +kernel
theorem dX2_upToChanges_33 : decode cX2_upToChanges 33 = .ok (.lload 5, 2) := by decide +kernel
theorem dX2_upToChanges_35 : decode cX2_upToChanges 35 = .ok (.iload_n 1, 1) := by decide +kernel
theorem dX2_upToChanges_36 : decode cX2_upToChanges 36 = .ok (.iconst 1, 1) := by decide +kernel
theorem dX2_upToChanges_37 : decode cX2_upToChanges 37 = .ok (.isub, 1) := by decide +kernel
theorem dX2_upToChanges_38 : decode cX2_upToChanges 38 = .ok (.iload 7, 2) := by decide +kernel
theorem dX2_upToChanges_40 : decode cX2_upToChanges 40 = .ok (.isub, 1) := by decide +kernel
theorem dX2_upToChanges_41 : decode cX2_upToChanges 41 = .ok (.i2l, 1) := by decide +kernel
theorem dX2_upToChanges_42 : decode cX2_upToChanges 42 = .ok (.lmul, 1) := by decide +kernel
theorem dX2_upToChanges_43 : decode cX2_upToChanges 43 = .ok (.iload 7, 2) := by decide +kernel
theorem dX2_upToChanges_45 : decode cX2_upToChanges 45 = .ok (.iconst 1, 1) := by decide +kernel
theorem dX2_upToChanges_46 : decode cX2_upToChanges 46 = .ok (.iadd, 1) := by decide +kernel
theorem dX2_upToChanges_47 : decode cX2_upToChanges 47 = .ok (.i2l, 1) := by decide +kernel
theorem dX2_upToChanges_48 : decode cX2_upToChanges 48 = .ok (.ldiv, 1) := by decide +kernel
theorem dX2_upToChanges_49 : decode cX2_upToChanges 49 = .ok (.lstore 5, 2) := by decide +kernel
theorem dX2_upToChanges_51 : decode cX2_upToChanges 51 = .ok (.iinc 7 1, 3) := by decide +kernel
theorem dX2_upToChanges_54 : decode cX2_upToChanges 54 = .ok (.goto (-46), 3) := by decide +kernel
theorem dX2_upToChanges_57 : decode cX2_upToChanges 57 = .ok (.lload_n 3, 1) := by decide +kernel
theorem dX2_upToChanges_58 : decode cX2_upToChanges 58 = .ok (.lreturn, 1) := by decide +kernel
set_option maxRecDepth 20000 in
theorem ggX2_meanTotal_X2_power : GoodIn wsX2_meanTotal wsX2_power := goodIn_r _ [5] (by decide +kernel) (by decide +kernel)
set_option maxRecDepth 20000 in
theorem gX2_meanTotal_X2_power : GoodIn wsX2_meanTotal (va_wsS RX2 7 yX2_power wsX2_power) := goodIn_app (goodIn_of _ (by decide +kernel)) ggX2_meanTotal_X2_power
theorem dX2_meanTotal_0 : decode cX2_meanTotal 0 = .ok (.lconst 0, 1) := by decide +kernel
theorem dX2_meanTotal_1 : decode cX2_meanTotal 1 = .ok (.lstore_n 2, 1) := by decide +kernel
theorem dX2_meanTotal_2 : decode cX2_meanTotal 2 = .ok (.iconst 0, 1) := by decide +kernel
theorem dX2_meanTotal_3 : decode cX2_meanTotal 3 = .ok (.istore 4, 2) := by decide +kernel
theorem dX2_meanTotal_5 : decode cX2_meanTotal 5 = .ok (.iload 4, 2) := by decide +kernel
theorem dX2_meanTotal_7 : decode cX2_meanTotal 7 = .ok (.iload_n 1, 1) := by decide +kernel
theorem dX2_meanTotal_8 : decode cX2_meanTotal 8 = .ok (.if_icmp .ge 37, 3) := by decide +kernel
theorem dX2_meanTotal_11 : decode cX2_meanTotal 11 = .ok (.lload_n 2, 1) := by decide +kernel
theorem dX2_meanTotal_12 : decode cX2_meanTotal 12 = .ok (.iconst 2, 1) := by decide +kernel
theorem dX2_meanTotal_13 : decode cX2_meanTotal 13 = .ok (.iload_n 0, 1) := by decide +kernel
theorem dX2_meanTotal_14 : decode cX2_meanTotal 14 = .ok (.imul, 1) := by decide +kernel
theorem dX2_meanTotal_15 : decode cX2_meanTotal 15 = .ok (.bipush 100, 2) := by decide +kernel
theorem dX2_meanTotal_17 : decode cX2_meanTotal 17 = .ok (.isub, 1) := by decide +kernel
theorem dX2_meanTotal_18 : decode cX2_meanTotal 18 = .ok (.i2l, 1) := by decide +kernel
theorem dX2_meanTotal_19 : decode cX2_meanTotal 19 = .ok (.iload 4, 2) := by decide +kernel
theorem dX2_meanTotal_21 : decode cX2_meanTotal 21 = .ok (.invokestatic 7, 3) := by decide +kernel
theorem dX2_meanTotal_24 : decode cX2_meanTotal 24 = .ok (.ldc2_w 17, 3) := by decide +kernel
theorem dX2_meanTotal_27 : decode cX2_meanTotal 27 = .ok (.iload_n 1, 1) := by decide +kernel
theorem dX2_meanTotal_28 : decode cX2_meanTotal 28 = .ok (.iconst 1, 1) := by decide +kernel
theorem dX2_meanTotal_29 : decode cX2_meanTotal 29 = .ok (.isub, 1) := by decide +kernel
theorem dX2_meanTotal_30 : decode cX2_meanTotal 30 = .ok (.iload 4, 2) := by decide +kernel
theorem dX2_meanTotal_32 : decode cX2_meanTotal 32 = .ok (.isub, 1) := by decide +kernel
theorem dX2_meanTotal_33 : decode cX2_meanTotal 33 = .ok (.invokestatic 7, 3) := by decide +kernel
theorem dX2_meanTotal_36 : decode cX2_meanTotal 36 = .ok (.lmul, 1) := by decide +kernel
theorem dX2_meanTotal_37 : decode cX2_meanTotal 37 = .ok (.ladd, 1) := by decide +kernel
theorem dX2_meanTotal_38 : decode cX2_meanTotal 38 = .ok (.lstore_n 2, 1) := by decide +kernel
theorem dX2_meanTotal_39 : decode cX2_meanTotal 39 = .ok (.iinc 4 1, 3) := by decide +kernel
theorem dX2_meanTotal_42 : decode cX2_meanTotal 42 = .ok (.goto (-37), 3) := by decide +kernel
theorem dX2_meanTotal_45 : decode cX2_meanTotal 45 = .ok (.lload_n 2, 1) := by decide +kernel
theorem dX2_meanTotal_46 : decode cX2_meanTotal 46 = .ok (.lreturn, 1) := by decide +kernel
theorem dX2_drawBehind_0 : decode cX2_drawBehind 0 = .ok (.bipush 75, 2) := by decide +kernel
theorem dX2_drawBehind_2 : decode cX2_drawBehind 2 = .ok (.iload_n 0, 1) := by decide +kernel
theorem dX2_drawBehind_3 : decode cX2_drawBehind 3 = .ok (.imul, 1) := by decide +kernel
theorem dX2_drawBehind_4 : decode cX2_drawBehind 4 = .ok (.bipush 74, 2) := by decide +kernel
theorem dX2_drawBehind_6 : decode cX2_drawBehind 6 = .ok (.iadd, 1) := by decide +kernel
theorem dX2_drawBehind_7 : decode cX2_drawBehind 7 = .ok (.ldc 19, 2) := by decide +kernel
theorem dX2_drawBehind_9 : decode cX2_drawBehind 9 = .ok (.irem, 1) := by decide +kernel
theorem dX2_drawBehind_10 : decode cX2_drawBehind 10 = .ok (.ireturn, 1) := by decide +kernel
set_option maxRecDepth 20000 in
theorem ggX2_rowBy_X2_drawBehind : GoodIn wsX2_rowBy wsX2_drawBehind := goodIn_r _ [4, 5] (by decide +kernel) (by decide +kernel)
set_option maxRecDepth 20000 in
theorem gX2_rowBy_X2_drawBehind : GoodIn wsX2_rowBy (va_wsS RX2 20 yX2_drawBehind wsX2_drawBehind) := goodIn_app (goodIn_of _ (by decide +kernel)) ggX2_rowBy_X2_drawBehind
theorem dX2_rowBy_0 : decode cX2_rowBy 0 = .ok (.iconst 1, 1) := by decide +kernel
theorem dX2_rowBy_1 : decode cX2_rowBy 1 = .ok (.istore_n 3, 1) := by decide +kernel
theorem dX2_rowBy_2 : decode cX2_rowBy 2 = .ok (.iload_n 1, 1) := by decide +kernel
theorem dX2_rowBy_3 : decode cX2_rowBy 3 = .ok (.istore 4, 2) := by decide +kernel
theorem dX2_rowBy_5 : decode cX2_rowBy 5 = .ok (.iconst 1, 1) := by decide +kernel
theorem dX2_rowBy_6 : decode cX2_rowBy 6 = .ok (.istore 5, 2) := by decide +kernel
theorem dX2_rowBy_8 : decode cX2_rowBy 8 = .ok (.iload 5, 2) := by decide +kernel
theorem dX2_rowBy_10 : decode cX2_rowBy 10 = .ok (.iload_n 2, 1) := by decide +kernel
theorem dX2_rowBy_11 : decode cX2_rowBy 11 = .ok (.if_icmp .ge 44, 3) := by decide +kernel
theorem dX2_rowBy_14 : decode cX2_rowBy 14 = .ok (.iload 4, 2) := by decide +kernel
theorem dX2_rowBy_16 : decode cX2_rowBy 16 = .ok (.invokestatic 20, 3) := by decide +kernel
theorem dX2_rowBy_19 : decode cX2_rowBy 19 = .ok (.istore 4, 2) := by decide +kernel
theorem dX2_rowBy_21 : decode cX2_rowBy 21 = .ok (.iload_n 3, 1) := by decide +kernel
theorem dX2_rowBy_22 : decode cX2_rowBy 22 = .ok (.iconst 1, 1) := by decide +kernel
theorem dX2_rowBy_23 : decode cX2_rowBy 23 = .ok (.iand, 1) := by decide +kernel
theorem dX2_rowBy_24 : decode cX2_rowBy 24 = .ok (.istore 6, 2) := by decide +kernel
theorem dX2_rowBy_26 : decode cX2_rowBy 26 = .ok (.iload_n 3, 1) := by decide +kernel
theorem dX2_rowBy_27 : decode cX2_rowBy 27 = .ok (.iconst 2, 1) := by decide +kernel
theorem dX2_rowBy_28 : decode cX2_rowBy 28 = .ok (.imul, 1) := by decide +kernel
theorem dX2_rowBy_29 : decode cX2_rowBy 29 = .ok (.iload 4, 2) := by decide +kernel
theorem dX2_rowBy_31 : decode cX2_rowBy 31 = .ok (.bipush 100, 2) := by decide +kernel
theorem dX2_rowBy_33 : decode cX2_rowBy 33 = .ok (.irem, 1) := by decide +kernel
theorem dX2_rowBy_34 : decode cX2_rowBy 34 = .ok (.iload_n 0, 1) := by decide +kernel
theorem dX2_rowBy_35 : decode cX2_rowBy 35 = .ok (.if_icmp .ge 8, 3) := by decide +kernel
theorem dX2_rowBy_38 : decode cX2_rowBy 38 = .ok (.iload 6, 2) := by decide +kernel
theorem dX2_rowBy_40 : decode cX2_rowBy 40 = .ok (.goto 7, 3) := by decide +kernel
theorem dX2_rowBy_43 : decode cX2_rowBy 43 = .ok (.iconst 1, 1) := by decide +kernel
theorem dX2_rowBy_44 : decode cX2_rowBy 44 = .ok (.iload 6, 2) := by decide +kernel
theorem dX2_rowBy_46 : decode cX2_rowBy 46 = .ok (.isub, 1) := by decide +kernel
theorem dX2_rowBy_47 : decode cX2_rowBy 47 = .ok (.iadd, 1) := by decide +kernel
theorem dX2_rowBy_48 : decode cX2_rowBy 48 = .ok (.istore_n 3, 1) := by decide +kernel
theorem dX2_rowBy_49 : decode cX2_rowBy 49 = .ok (.iinc 5 1, 3) := by decide +kernel
theorem dX2_rowBy_52 : decode cX2_rowBy 52 = .ok (.goto (-44), 3) := by decide +kernel
theorem dX2_rowBy_55 : decode cX2_rowBy 55 = .ok (.iload_n 3, 1) := by decide +kernel
theorem dX2_rowBy_56 : decode cX2_rowBy 56 = .ok (.ireturn, 1) := by decide +kernel
set_option maxRecDepth 20000 in
theorem ggX2_longestBy_X2_drawBehind : GoodIn wsX2_longestBy wsX2_drawBehind := goodIn_r _ [8, 9] (by decide +kernel) (by decide +kernel)
set_option maxRecDepth 20000 in
theorem gX2_longestBy_X2_drawBehind : GoodIn wsX2_longestBy (va_wsS RX2 20 yX2_drawBehind wsX2_drawBehind) := goodIn_app (goodIn_of _ (by decide +kernel)) ggX2_longestBy_X2_drawBehind
theorem dX2_longestBy_0 : decode cX2_longestBy 0 = .ok (.iconst 1, 1) := by decide +kernel
theorem dX2_longestBy_1 : decode cX2_longestBy 1 = .ok (.istore_n 3, 1) := by decide +kernel
theorem dX2_longestBy_2 : decode cX2_longestBy 2 = .ok (.iconst 1, 1) := by decide +kernel
theorem dX2_longestBy_3 : decode cX2_longestBy 3 = .ok (.istore 4, 2) := by decide +kernel
theorem dX2_longestBy_5 : decode cX2_longestBy 5 = .ok (.iload_n 1, 1) := by decide +kernel
theorem dX2_longestBy_6 : decode cX2_longestBy 6 = .ok (.istore 5, 2) := by decide +kernel
theorem dX2_longestBy_8 : decode cX2_longestBy 8 = .ok (.iconst 1, 1) := by decide +kernel
theorem dX2_longestBy_9 : decode cX2_longestBy 9 = .ok (.istore 6, 2) := by decide +kernel
theorem dX2_longestBy_11 : decode cX2_longestBy 11 = .ok (.iload 6, 2) := by decide +kernel
theorem dX2_longestBy_13 : decode cX2_longestBy 13 = .ok (.iload_n 2, 1) := by decide +kernel
theorem dX2_longestBy_14 : decode cX2_longestBy 14 = .ok (.if_icmp .ge 42, 3) := by decide +kernel
theorem dX2_longestBy_17 : decode cX2_longestBy 17 = .ok (.iload 5, 2) := by decide +kernel
theorem dX2_longestBy_19 : decode cX2_longestBy 19 = .ok (.invokestatic 20, 3) := by decide +kernel
theorem dX2_longestBy_22 : decode cX2_longestBy 22 = .ok (.istore 5, 2) := by decide +kernel
theorem dX2_longestBy_24 : decode cX2_longestBy 24 = .ok (.iload 5, 2) := by decide +kernel
theorem dX2_longestBy_26 : decode cX2_longestBy 26 = .ok (.bipush 100, 2) := by decide +kernel
theorem dX2_longestBy_28 : decode cX2_longestBy 28 = .ok (.irem, 1) := by decide +kernel
theorem dX2_longestBy_29 : decode cX2_longestBy 29 = .ok (.iload_n 0, 1) := by decide +kernel
theorem dX2_longestBy_30 : decode cX2_longestBy 30 = .ok (.if_icmp .ge 10, 3) := by decide +kernel
theorem dX2_longestBy_33 : decode cX2_longestBy 33 = .ok (.iload 4, 2) := by decide +kernel
theorem dX2_longestBy_35 : decode cX2_longestBy 35 = .ok (.iconst 1, 1) := by decide +kernel
theorem dX2_longestBy_36 : decode cX2_longestBy 36 = .ok (.iadd, 1) := by decide +kernel
theorem dX2_longestBy_37 : decode cX2_longestBy 37 = .ok (.goto 4, 3) := by decide +kernel
theorem dX2_longestBy_40 : decode cX2_longestBy 40 = .ok (.iconst 1, 1) := by decide +kernel
theorem dX2_longestBy_41 : decode cX2_longestBy 41 = .ok (.istore 4, 2) := by decide +kernel
theorem dX2_longestBy_43 : decode cX2_longestBy 43 = .ok (.iload_n 3, 1) := by decide +kernel
theorem dX2_longestBy_44 : decode cX2_longestBy 44 = .ok (.iload 4, 2) := by decide +kernel
theorem dX2_longestBy_46 : decode cX2_longestBy 46 = .ok (.invokestatic 24, 3) := by decide +kernel
theorem dX2_longestBy_49 : decode cX2_longestBy 49 = .ok (.istore_n 3, 1) := by decide +kernel
theorem dX2_longestBy_50 : decode cX2_longestBy 50 = .ok (.iinc 6 1, 3) := by decide +kernel
theorem dX2_longestBy_53 : decode cX2_longestBy 53 = .ok (.goto (-42), 3) := by decide +kernel
theorem dX2_longestBy_56 : decode cX2_longestBy 56 = .ok (.iload_n 3, 1) := by decide +kernel
theorem dX2_longestBy_57 : decode cX2_longestBy 57 = .ok (.ireturn, 1) := by decide +kernel
theorem dX3_init_0 : decode cX3_init 0 = .ok (.aload_n 0, 1) := by decide +kernel
theorem dX3_init_1 : decode cX3_init 1 = .ok (.invokespecial 3, 3) := by decide +kernel
theorem dX3_init_4 : decode cX3_init 4 = .ok (.aload_n 0, 1) := by decide +kernel
theorem dX3_init_5 : decode cX3_init 5 = .ok (.bipush 15, 2) := by decide +kernel
theorem dX3_init_7 : decode cX3_init 7 = .ok (.newarray .int, 2) := by decide +kernel
theorem dX3_init_9 : decode cX3_init 9 = .ok (.putfield 9, 3) := by decide +kernel
theorem dX3_init_12 : decode cX3_init 12 = .ok (.aload_n 0, 1) := by decide +kernel
theorem dX3_init_13 : decode cX3_init 13 = .ok (.bipush 15, 2) := by decide +kernel
theorem dX3_init_15 : decode cX3_init 15 = .ok (.newarray .int, 2) := by decide +kernel
theorem dX3_init_17 : decode cX3_init 17 = .ok (.putfield 15, 3) := by decide +kernel
theorem dX3_init_20 : decode cX3_init 20 = .ok (.return_, 1) := by decide +kernel
set_option maxRecDepth 20000 in
theorem ggX3_keep_X9_row : GoodIn wsX3_keep wsX9_row := goodIn_r _ [8, 9, 10, 11, 12, 23, 24, 25] (by decide +kernel) (by decide +kernel)
set_option maxRecDepth 20000 in
theorem gX3_keep_X9_row : GoodIn wsX3_keep (wsV RX3 22 RX9 yX9_row wsX9_row) := goodIn_app (goodIn_of _ (by decide +kernel)) ggX3_keep_X9_row
set_option maxRecDepth 20000 in
theorem ggX3_keep_X11_set : GoodIn wsX3_keep wsX11_set := goodIn_r _ [14] (by decide +kernel) (by decide +kernel)
set_option maxRecDepth 20000 in
theorem gX3_keep_X11_set_n28 : GoodIn wsX3_keep (wsX11_set) := ggX3_keep_X11_set
set_option maxRecDepth 20000 in
theorem ggX3_keep_X9_steps : GoodIn wsX3_keep wsX9_steps := goodIn_r _ [18, 19, 10, 11, 12, 23, 24, 25] (by decide +kernel) (by decide +kernel)
set_option maxRecDepth 20000 in
theorem gX3_keep_X9_steps : GoodIn wsX3_keep (wsV RX3 32 RX9 yX9_steps wsX9_steps) := goodIn_app (goodIn_of _ (by decide +kernel)) ggX3_keep_X9_steps
theorem dX3_keep_0 : decode cX3_keep 0 = .ok (.iconst 0, 1) := by decide +kernel
theorem dX3_keep_1 : decode cX3_keep 1 = .ok (.istore_n 2, 1) := by decide +kernel
theorem dX3_keep_2 : decode cX3_keep 2 = .ok (.iload_n 2, 1) := by decide +kernel
theorem dX3_keep_3 : decode cX3_keep 3 = .ok (.iconst 5, 1) := by decide +kernel
theorem dX3_keep_4 : decode cX3_keep 4 = .ok (.if_icmp .ge 49, 3) := by decide +kernel
theorem dX3_keep_7 : decode cX3_keep 7 = .ok (.aload_n 0, 1) := by decide +kernel
theorem dX3_keep_8 : decode cX3_keep 8 = .ok (.getfield 9, 3) := by decide +kernel
theorem dX3_keep_11 : decode cX3_keep 11 = .ok (.aload_n 0, 1) := by decide +kernel
theorem dX3_keep_12 : decode cX3_keep 12 = .ok (.getfield 18, 3) := by decide +kernel
theorem dX3_keep_15 : decode cX3_keep 15 = .ok (.iconst 5, 1) := by decide +kernel
theorem dX3_keep_16 : decode cX3_keep 16 = .ok (.imul, 1) := by decide +kernel
theorem dX3_keep_17 : decode cX3_keep 17 = .ok (.iload_n 2, 1) := by decide +kernel
theorem dX3_keep_18 : decode cX3_keep 18 = .ok (.iadd, 1) := by decide +kernel
theorem dX3_keep_19 : decode cX3_keep 19 = .ok (.aload_n 1, 1) := by decide +kernel
theorem dX3_keep_20 : decode cX3_keep 20 = .ok (.iload_n 2, 1) := by decide +kernel
theorem dX3_keep_21 : decode cX3_keep 21 = .ok (.invokevirtual 22, 3) := by decide +kernel
theorem dX3_keep_24 : decode cX3_keep 24 = .ok (.invokestatic 28, 3) := by decide +kernel
theorem dX3_keep_27 : decode cX3_keep 27 = .ok (.aload_n 0, 1) := by decide +kernel
theorem dX3_keep_28 : decode cX3_keep 28 = .ok (.getfield 15, 3) := by decide +kernel
theorem dX3_keep_31 : decode cX3_keep 31 = .ok (.aload_n 0, 1) := by decide +kernel
theorem dX3_keep_32 : decode cX3_keep 32 = .ok (.getfield 18, 3) := by decide +kernel
theorem dX3_keep_35 : decode cX3_keep 35 = .ok (.iconst 5, 1) := by decide +kernel
theorem dX3_keep_36 : decode cX3_keep 36 = .ok (.imul, 1) := by decide +kernel
theorem dX3_keep_37 : decode cX3_keep 37 = .ok (.iload_n 2, 1) := by decide +kernel
theorem dX3_keep_38 : decode cX3_keep 38 = .ok (.iadd, 1) := by decide +kernel
theorem dX3_keep_39 : decode cX3_keep 39 = .ok (.aload_n 1, 1) := by decide +kernel
theorem dX3_keep_40 : decode cX3_keep 40 = .ok (.iload_n 2, 1) := by decide +kernel
theorem dX3_keep_41 : decode cX3_keep 41 = .ok (.invokevirtual 32, 3) := by decide +kernel
theorem dX3_keep_44 : decode cX3_keep 44 = .ok (.invokestatic 28, 3) := by decide +kernel
theorem dX3_keep_47 : decode cX3_keep 47 = .ok (.iinc 2 1, 3) := by decide +kernel
theorem dX3_keep_50 : decode cX3_keep 50 = .ok (.goto (-48), 3) := by decide +kernel
theorem dX3_keep_53 : decode cX3_keep 53 = .ok (.aload_n 0, 1) := by decide +kernel
theorem dX3_keep_54 : decode cX3_keep 54 = .ok (.dup, 1) := by decide +kernel
theorem dX3_keep_55 : decode cX3_keep 55 = .ok (.getfield 18, 3) := by decide +kernel
theorem dX3_keep_58 : decode cX3_keep 58 = .ok (.iconst 1, 1) := by decide +kernel
theorem dX3_keep_59 : decode cX3_keep 59 = .ok (.iadd, 1) := by decide +kernel
theorem dX3_keep_60 : decode cX3_keep 60 = .ok (.putfield 18, 3) := by decide +kernel
theorem dX3_keep_63 : decode cX3_keep 63 = .ok (.aload_n 0, 1) := by decide +kernel
theorem dX3_keep_64 : decode cX3_keep 64 = .ok (.getfield 18, 3) := by decide +kernel
theorem dX3_keep_67 : decode cX3_keep 67 = .ok (.iconst 1, 1) := by decide +kernel
theorem dX3_keep_68 : decode cX3_keep 68 = .ok (.isub, 1) := by decide +kernel
theorem dX3_keep_69 : decode cX3_keep 69 = .ok (.ireturn, 1) := by decide +kernel
set_option maxRecDepth 20000 in
theorem ggX3_bring_X11_at : GoodIn wsX3_bring wsX11_at := goodIn_r _ [5] (by decide +kernel) (by decide +kernel)
set_option maxRecDepth 20000 in
theorem gX3_bring_X11_at_n35 : GoodIn wsX3_bring (wsX11_at) := ggX3_bring_X11_at
set_option maxRecDepth 20000 in
theorem ggX3_bring_X9_put : GoodIn wsX3_bring wsX9_put := goodIn_r _ [10, 11, 12, 13, 4, 14, 18, 19, 20] (by decide +kernel) (by decide +kernel)
set_option maxRecDepth 20000 in
theorem gX3_bring_X9_put : GoodIn wsX3_bring (wsV RX3 39 RX9 yX9_put wsX9_put) := goodIn_app (goodIn_of _ (by decide +kernel)) ggX3_bring_X9_put
theorem dX3_bring_0 : decode cX3_bring 0 = .ok (.iconst 0, 1) := by decide +kernel
theorem dX3_bring_1 : decode cX3_bring 1 = .ok (.istore_n 3, 1) := by decide +kernel
theorem dX3_bring_2 : decode cX3_bring 2 = .ok (.iload_n 3, 1) := by decide +kernel
theorem dX3_bring_3 : decode cX3_bring 3 = .ok (.iconst 5, 1) := by decide +kernel
theorem dX3_bring_4 : decode cX3_bring 4 = .ok (.if_icmp .ge 38, 3) := by decide +kernel
theorem dX3_bring_7 : decode cX3_bring 7 = .ok (.aload_n 2, 1) := by decide +kernel
theorem dX3_bring_8 : decode cX3_bring 8 = .ok (.iload_n 3, 1) := by decide +kernel
theorem dX3_bring_9 : decode cX3_bring 9 = .ok (.aload_n 0, 1) := by decide +kernel
theorem dX3_bring_10 : decode cX3_bring 10 = .ok (.getfield 9, 3) := by decide +kernel
theorem dX3_bring_13 : decode cX3_bring 13 = .ok (.iload_n 1, 1) := by decide +kernel
theorem dX3_bring_14 : decode cX3_bring 14 = .ok (.iconst 5, 1) := by decide +kernel
theorem dX3_bring_15 : decode cX3_bring 15 = .ok (.imul, 1) := by decide +kernel
theorem dX3_bring_16 : decode cX3_bring 16 = .ok (.iload_n 3, 1) := by decide +kernel
theorem dX3_bring_17 : decode cX3_bring 17 = .ok (.iadd, 1) := by decide +kernel
theorem dX3_bring_18 : decode cX3_bring 18 = .ok (.invokestatic 35, 3) := by decide +kernel
theorem dX3_bring_21 : decode cX3_bring 21 = .ok (.aload_n 0, 1) := by decide +kernel
theorem dX3_bring_22 : decode cX3_bring 22 = .ok (.getfield 15, 3) := by decide +kernel
theorem dX3_bring_25 : decode cX3_bring 25 = .ok (.iload_n 1, 1) := by decide +kernel
theorem dX3_bring_26 : decode cX3_bring 26 = .ok (.iconst 5, 1) := by decide +kernel
theorem dX3_bring_27 : decode cX3_bring 27 = .ok (.imul, 1) := by decide +kernel
theorem dX3_bring_28 : decode cX3_bring 28 = .ok (.iload_n 3, 1) := by decide +kernel
theorem dX3_bring_29 : decode cX3_bring 29 = .ok (.iadd, 1) := by decide +kernel
theorem dX3_bring_30 : decode cX3_bring 30 = .ok (.invokestatic 35, 3) := by decide +kernel
theorem dX3_bring_33 : decode cX3_bring 33 = .ok (.invokevirtual 39, 3) := by decide +kernel
theorem dX3_bring_36 : decode cX3_bring 36 = .ok (.iinc 3 1, 3) := by decide +kernel
theorem dX3_bring_39 : decode cX3_bring 39 = .ok (.goto (-37), 3) := by decide +kernel
theorem dX3_bring_42 : decode cX3_bring 42 = .ok (.return_, 1) := by decide +kernel
set_option maxRecDepth 20000 in
theorem ggX4_init_X9_init : GoodIn wsX4_init wsX9_init := goodIn_r _ [17, 18, 2, 3, 10, 19, 20, 21, 22, 23] (by decide +kernel) (by decide +kernel)
set_option maxRecDepth 20000 in
theorem gX4_init_X9_init_n11 : GoodIn wsX4_init (wsX9_init) := ggX4_init_X9_init
theorem dX4_init_0 : decode cX4_init 0 = .ok (.aload_n 0, 1) := by decide +kernel
theorem dX4_init_1 : decode cX4_init 1 = .ok (.invokespecial 3, 3) := by decide +kernel
theorem dX4_init_4 : decode cX4_init 4 = .ok (.aload_n 0, 1) := by decide +kernel
theorem dX4_init_5 : decode cX4_init 5 = .ok (.new 9, 3) := by decide +kernel
theorem dX4_init_8 : decode cX4_init 8 = .ok (.dup, 1) := by decide +kernel
theorem dX4_init_9 : decode cX4_init 9 = .ok (.invokespecial 11, 3) := by decide +kernel
theorem dX4_init_12 : decode cX4_init 12 = .ok (.putfield 12, 3) := by decide +kernel
theorem dX4_init_15 : decode cX4_init 15 = .ok (.aload_n 0, 1) := by decide +kernel
theorem dX4_init_16 : decode cX4_init 16 = .ok (.iconst 5, 1) := by decide +kernel
theorem dX4_init_17 : decode cX4_init 17 = .ok (.newarray .long, 2) := by decide +kernel
theorem dX4_init_19 : decode cX4_init 19 = .ok (.putfield 18, 3) := by decide +kernel
theorem dX4_init_22 : decode cX4_init 22 = .ok (.aload_n 0, 1) := by decide +kernel
theorem dX4_init_23 : decode cX4_init 23 = .ok (.iconst 4, 1) := by decide +kernel
theorem dX4_init_24 : decode cX4_init 24 = .ok (.newarray .int, 2) := by decide +kernel
theorem dX4_init_26 : decode cX4_init 26 = .ok (.putfield 22, 3) := by decide +kernel
theorem dX4_init_29 : decode cX4_init 29 = .ok (.aload_n 0, 1) := by decide +kernel
theorem dX4_init_30 : decode cX4_init 30 = .ok (.iconst 4, 1) := by decide +kernel
theorem dX4_init_31 : decode cX4_init 31 = .ok (.newarray .int, 2) := by decide +kernel
theorem dX4_init_33 : decode cX4_init 33 = .ok (.putfield 26, 3) := by decide +kernel
theorem dX4_init_36 : decode cX4_init 36 = .ok (.aload_n 0, 1) := by decide +kernel
theorem dX4_init_37 : decode cX4_init 37 = .ok (.bipush 6, 2) := by decide +kernel
theorem dX4_init_39 : decode cX4_init 39 = .ok (.newarray .int, 2) := by decide +kernel
theorem dX4_init_41 : decode cX4_init 41 = .ok (.putfield 29, 3) := by decide +kernel
theorem dX4_init_44 : decode cX4_init 44 = .ok (.aload_n 0, 1) := by decide +kernel
theorem dX4_init_45 : decode cX4_init 45 = .ok (.bipush 6, 2) := by decide +kernel
theorem dX4_init_47 : decode cX4_init 47 = .ok (.newarray .int, 2) := by decide +kernel
theorem dX4_init_49 : decode cX4_init 49 = .ok (.putfield 32, 3) := by decide +kernel
theorem dX4_init_52 : decode cX4_init 52 = .ok (.aload_n 0, 1) := by decide +kernel
theorem dX4_init_53 : decode cX4_init 53 = .ok (.bipush 6, 2) := by decide +kernel
theorem dX4_init_55 : decode cX4_init 55 = .ok (.newarray .int, 2) := by decide +kernel
theorem dX4_init_57 : decode cX4_init 57 = .ok (.putfield 35, 3) := by decide +kernel
theorem dX4_init_60 : decode cX4_init 60 = .ok (.return_, 1) := by decide +kernel
theorem dX4_clear_0 : decode cX4_clear 0 = .ok (.aload_n 0, 1) := by decide +kernel
theorem dX4_clear_1 : decode cX4_clear 1 = .ok (.iconst 0, 1) := by decide +kernel
theorem dX4_clear_2 : decode cX4_clear 2 = .ok (.putfield 38, 3) := by decide +kernel
theorem dX4_clear_5 : decode cX4_clear 5 = .ok (.aload_n 0, 1) := by decide +kernel
theorem dX4_clear_6 : decode cX4_clear 6 = .ok (.getfield 12, 3) := by decide +kernel
theorem dX4_clear_9 : decode cX4_clear 9 = .ok (.iconst 0, 1) := by decide +kernel
theorem dX4_clear_10 : decode cX4_clear 10 = .ok (.putfield 42, 3) := by decide +kernel
theorem dX4_clear_13 : decode cX4_clear 13 = .ok (.aload_n 0, 1) := by decide +kernel
theorem dX4_clear_14 : decode cX4_clear 14 = .ok (.iconst 0, 1) := by decide +kernel
theorem dX4_clear_15 : decode cX4_clear 15 = .ok (.putfield 46, 3) := by decide +kernel
theorem dX4_clear_18 : decode cX4_clear 18 = .ok (.aload_n 0, 1) := by decide +kernel
theorem dX4_clear_19 : decode cX4_clear 19 = .ok (.iconst 0, 1) := by decide +kernel
theorem dX4_clear_20 : decode cX4_clear 20 = .ok (.putfield 49, 3) := by decide +kernel
theorem dX4_clear_23 : decode cX4_clear 23 = .ok (.return_, 1) := by decide +kernel
theorem dX4_stackNamed_0 : decode cX4_stackNamed 0 = .ok (.iconst 0, 1) := by decide +kernel
theorem dX4_stackNamed_1 : decode cX4_stackNamed 1 = .ok (.istore_n 3, 1) := by decide +kernel
theorem dX4_stackNamed_2 : decode cX4_stackNamed 2 = .ok (.iload_n 3, 1) := by decide +kernel
theorem dX4_stackNamed_3 : decode cX4_stackNamed 3 = .ok (.aload_n 0, 1) := by decide +kernel
theorem dX4_stackNamed_4 : decode cX4_stackNamed 4 = .ok (.getfield 12, 3) := by decide +kernel
theorem dX4_stackNamed_7 : decode cX4_stackNamed 7 = .ok (.getfield 42, 3) := by decide +kernel
theorem dX4_stackNamed_10 : decode cX4_stackNamed 10 = .ok (.if_icmp .ge 31, 3) := by decide +kernel
theorem dX4_stackNamed_13 : decode cX4_stackNamed 13 = .ok (.iload_n 3, 1) := by decide +kernel
theorem dX4_stackNamed_14 : decode cX4_stackNamed 14 = .ok (.aload_n 0, 1) := by decide +kernel
theorem dX4_stackNamed_15 : decode cX4_stackNamed 15 = .ok (.getfield 18, 3) := by decide +kernel
theorem dX4_stackNamed_18 : decode cX4_stackNamed 18 = .ok (.arraylength, 1) := by decide +kernel
theorem dX4_stackNamed_19 : decode cX4_stackNamed 19 = .ok (.if_icmp .ge 22, 3) := by decide +kernel
theorem dX4_stackNamed_22 : decode cX4_stackNamed 22 = .ok (.aload_n 0, 1) := by decide +kernel
theorem dX4_stackNamed_23 : decode cX4_stackNamed 23 = .ok (.getfield 18, 3) := by decide +kernel
theorem dX4_stackNamed_26 : decode cX4_stackNamed 26 = .ok (.iload_n 3, 1) := by decide +kernel
theorem dX4_stackNamed_27 : decode cX4_stackNamed 27 = .ok (.laload, 1) := by decide +kernel
theorem dX4_stackNamed_28 : decode cX4_stackNamed 28 = .ok (.lload_n 1, 1) := by decide +kernel
theorem dX4_stackNamed_29 : decode cX4_stackNamed 29 = .ok (.lcmp, 1) := by decide +kernel
theorem dX4_stackNamed_30 : decode cX4_stackNamed 30 = .ok (.ifCond .ne 5, 3) := by decide +kernel
theorem dX4_stackNamed_33 : decode cX4_stackNamed 33 = .ok (.iload_n 3, 1) := by decide +kernel
theorem dX4_stackNamed_34 : decode cX4_stackNamed 34 = .ok (.ireturn, 1) := by decide +kernel
theorem dX4_stackNamed_35 : decode cX4_stackNamed 35 = .ok (.iinc 3 1, 3) := by decide +kernel
theorem dX4_stackNamed_38 : decode cX4_stackNamed 38 = .ok (.goto (-36), 3) := by decide +kernel
theorem dX4_stackNamed_41 : decode cX4_stackNamed 41 = .ok (.iconst (-1), 1) := by decide +kernel
theorem dX4_stackNamed_42 : decode cX4_stackNamed 42 = .ok (.ireturn, 1) := by decide +kernel
set_option maxRecDepth 20000 in
theorem ggX4_addStack_X9_put : GoodIn wsX4_addStack wsX9_put := goodIn_r _ [7, 8, 9, 10, 11, 12, 27, 28, 29] (by decide +kernel) (by decide +kernel)
set_option maxRecDepth 20000 in
theorem gX4_addStack_X9_put : GoodIn wsX4_addStack (wsV RX4 52 RX9 yX9_put wsX9_put) := goodIn_app (goodIn_of _ (by decide +kernel)) ggX4_addStack_X9_put
theorem dX4_addStack_0 : decode cX4_addStack 0 = .ok (.aload_n 0, 1) := by decide +kernel
theorem dX4_addStack_1 : decode cX4_addStack 1 = .ok (.getfield 12, 3) := by decide +kernel
theorem dX4_addStack_4 : decode cX4_addStack 4 = .ok (.getfield 42, 3) := by decide +kernel
theorem dX4_addStack_7 : decode cX4_addStack 7 = .ok (.istore 5, 2) := by decide +kernel
theorem dX4_addStack_9 : decode cX4_addStack 9 = .ok (.iload 5, 2) := by decide +kernel
theorem dX4_addStack_11 : decode cX4_addStack 11 = .ok (.ifCond .lt 46, 3) := by decide +kernel
theorem dX4_addStack_14 : decode cX4_addStack 14 = .ok (.iload 5, 2) := by decide +kernel
theorem dX4_addStack_16 : decode cX4_addStack 16 = .ok (.aload_n 0, 1) := by decide +kernel
theorem dX4_addStack_17 : decode cX4_addStack 17 = .ok (.getfield 18, 3) := by decide +kernel
theorem dX4_addStack_20 : decode cX4_addStack 20 = .ok (.arraylength, 1) := by decide +kernel
theorem dX4_addStack_21 : decode cX4_addStack 21 = .ok (.if_icmp .ge 36, 3) := by decide +kernel
theorem dX4_addStack_24 : decode cX4_addStack 24 = .ok (.aload_n 0, 1) := by decide +kernel
theorem dX4_addStack_25 : decode cX4_addStack 25 = .ok (.getfield 18, 3) := by decide +kernel
theorem dX4_addStack_28 : decode cX4_addStack 28 = .ok (.iload 5, 2) := by decide +kernel
theorem dX4_addStack_30 : decode cX4_addStack 30 = .ok (.lload_n 1, 1) := by decide +kernel
theorem dX4_addStack_31 : decode cX4_addStack 31 = .ok (.lastore, 1) := by decide +kernel
theorem dX4_addStack_32 : decode cX4_addStack 32 = .ok (.aload_n 0, 1) := by decide +kernel
theorem dX4_addStack_33 : decode cX4_addStack 33 = .ok (.getfield 12, 3) := by decide +kernel
theorem dX4_addStack_36 : decode cX4_addStack 36 = .ok (.iload 5, 2) := by decide +kernel
theorem dX4_addStack_38 : decode cX4_addStack 38 = .ok (.iload_n 3, 1) := by decide +kernel
theorem dX4_addStack_39 : decode cX4_addStack 39 = .ok (.iload 4, 2) := by decide +kernel
theorem dX4_addStack_41 : decode cX4_addStack 41 = .ok (.invokevirtual 52, 3) := by decide +kernel
theorem dX4_addStack_44 : decode cX4_addStack 44 = .ok (.aload_n 0, 1) := by decide +kernel
theorem dX4_addStack_45 : decode cX4_addStack 45 = .ok (.getfield 12, 3) := by decide +kernel
theorem dX4_addStack_48 : decode cX4_addStack 48 = .ok (.dup, 1) := by decide +kernel
theorem dX4_addStack_49 : decode cX4_addStack 49 = .ok (.getfield 42, 3) := by decide +kernel
theorem dX4_addStack_52 : decode cX4_addStack 52 = .ok (.iconst 1, 1) := by decide +kernel
theorem dX4_addStack_53 : decode cX4_addStack 53 = .ok (.iadd, 1) := by decide +kernel
theorem dX4_addStack_54 : decode cX4_addStack 54 = .ok (.putfield 42, 3) := by decide +kernel
theorem dX4_addStack_57 : decode cX4_addStack 57 = .ok (.return_, 1) := by decide +kernel
set_option maxRecDepth 20000 in
theorem ggX4_isUnsure_X11_at : GoodIn wsX4_isUnsure wsX11_at := goodIn_r _ [6] (by decide +kernel) (by decide +kernel)
set_option maxRecDepth 20000 in
theorem gX4_isUnsure_X11_at_n56 : GoodIn wsX4_isUnsure (wsX11_at) := ggX4_isUnsure_X11_at
theorem dX4_isUnsure_0 : decode cX4_isUnsure 0 = .ok (.iconst 0, 1) := by decide +kernel
theorem dX4_isUnsure_1 : decode cX4_isUnsure 1 = .ok (.istore_n 3, 1) := by decide +kernel
theorem dX4_isUnsure_2 : decode cX4_isUnsure 2 = .ok (.iload_n 3, 1) := by decide +kernel
theorem dX4_isUnsure_3 : decode cX4_isUnsure 3 = .ok (.aload_n 0, 1) := by decide +kernel
theorem dX4_isUnsure_4 : decode cX4_isUnsure 4 = .ok (.getfield 46, 3) := by decide +kernel
theorem dX4_isUnsure_7 : decode cX4_isUnsure 7 = .ok (.if_icmp .ge 35, 3) := by decide +kernel
theorem dX4_isUnsure_10 : decode cX4_isUnsure 10 = .ok (.aload_n 0, 1) := by decide +kernel
theorem dX4_isUnsure_11 : decode cX4_isUnsure 11 = .ok (.getfield 22, 3) := by decide +kernel
theorem dX4_isUnsure_14 : decode cX4_isUnsure 14 = .ok (.iload_n 3, 1) := by decide +kernel
theorem dX4_isUnsure_15 : decode cX4_isUnsure 15 = .ok (.invokestatic 56, 3) := by decide +kernel
theorem dX4_isUnsure_18 : decode cX4_isUnsure 18 = .ok (.iload_n 1, 1) := by decide +kernel
theorem dX4_isUnsure_19 : decode cX4_isUnsure 19 = .ok (.if_icmp .ne 17, 3) := by decide +kernel
theorem dX4_isUnsure_22 : decode cX4_isUnsure 22 = .ok (.aload_n 0, 1) := by decide +kernel
theorem dX4_isUnsure_23 : decode cX4_isUnsure 23 = .ok (.getfield 26, 3) := by decide +kernel
theorem dX4_isUnsure_26 : decode cX4_isUnsure 26 = .ok (.iload_n 3, 1) := by decide +kernel
theorem dX4_isUnsure_27 : decode cX4_isUnsure 27 = .ok (.invokestatic 56, 3) := by decide +kernel
theorem dX4_isUnsure_30 : decode cX4_isUnsure 30 = .ok (.iload_n 2, 1) := by decide +kernel
theorem dX4_isUnsure_31 : decode cX4_isUnsure 31 = .ok (.if_icmp .ne 5, 3) := by decide +kernel
theorem dX4_isUnsure_34 : decode cX4_isUnsure 34 = .ok (.iconst 1, 1) := by decide +kernel
theorem dX4_isUnsure_35 : decode cX4_isUnsure 35 = .ok (.ireturn, 1) := by decide +kernel
theorem dX4_isUnsure_36 : decode cX4_isUnsure 36 = .ok (.iinc 3 1, 3) := by decide +kernel
theorem dX4_isUnsure_39 : decode cX4_isUnsure 39 = .ok (.goto (-37), 3) := by decide +kernel
theorem dX4_isUnsure_42 : decode cX4_isUnsure 42 = .ok (.iconst 0, 1) := by decide +kernel
theorem dX4_isUnsure_43 : decode cX4_isUnsure 43 = .ok (.ireturn, 1) := by decide +kernel
set_option maxRecDepth 20000 in
theorem ggX4_addUnsure_X11_set : GoodIn wsX4_addUnsure wsX11_set := goodIn_r _ [6] (by decide +kernel) (by decide +kernel)
set_option maxRecDepth 20000 in
theorem gX4_addUnsure_X11_set_n60 : GoodIn wsX4_addUnsure (wsX11_set) := ggX4_addUnsure_X11_set
theorem dX4_addUnsure_0 : decode cX4_addUnsure 0 = .ok (.aload_n 0, 1) := by decide +kernel
theorem dX4_addUnsure_1 : decode cX4_addUnsure 1 = .ok (.getfield 22, 3) := by decide +kernel
theorem dX4_addUnsure_4 : decode cX4_addUnsure 4 = .ok (.aload_n 0, 1) := by decide +kernel
theorem dX4_addUnsure_5 : decode cX4_addUnsure 5 = .ok (.getfield 46, 3) := by decide +kernel
theorem dX4_addUnsure_8 : decode cX4_addUnsure 8 = .ok (.iload_n 1, 1) := by decide +kernel
theorem dX4_addUnsure_9 : decode cX4_addUnsure 9 = .ok (.invokestatic 60, 3) := by decide +kernel
theorem dX4_addUnsure_12 : decode cX4_addUnsure 12 = .ok (.aload_n 0, 1) := by decide +kernel
theorem dX4_addUnsure_13 : decode cX4_addUnsure 13 = .ok (.getfield 26, 3) := by decide +kernel
theorem dX4_addUnsure_16 : decode cX4_addUnsure 16 = .ok (.aload_n 0, 1) := by decide +kernel
theorem dX4_addUnsure_17 : decode cX4_addUnsure 17 = .ok (.getfield 46, 3) := by decide +kernel
theorem dX4_addUnsure_20 : decode cX4_addUnsure 20 = .ok (.iload_n 2, 1) := by decide +kernel
theorem dX4_addUnsure_21 : decode cX4_addUnsure 21 = .ok (.invokestatic 60, 3) := by decide +kernel
theorem dX4_addUnsure_24 : decode cX4_addUnsure 24 = .ok (.aload_n 0, 1) := by decide +kernel
theorem dX4_addUnsure_25 : decode cX4_addUnsure 25 = .ok (.dup, 1) := by decide +kernel
theorem dX4_addUnsure_26 : decode cX4_addUnsure 26 = .ok (.getfield 46, 3) := by decide +kernel
theorem dX4_addUnsure_29 : decode cX4_addUnsure 29 = .ok (.iconst 1, 1) := by decide +kernel
theorem dX4_addUnsure_30 : decode cX4_addUnsure 30 = .ok (.iadd, 1) := by decide +kernel
theorem dX4_addUnsure_31 : decode cX4_addUnsure 31 = .ok (.putfield 46, 3) := by decide +kernel
theorem dX4_addUnsure_34 : decode cX4_addUnsure 34 = .ok (.return_, 1) := by decide +kernel
set_option maxRecDepth 20000 in
theorem ggX4_isAgreed_X11_at : GoodIn wsX4_isAgreed wsX11_at := goodIn_r _ [6] (by decide +kernel) (by decide +kernel)
set_option maxRecDepth 20000 in
theorem gX4_isAgreed_X11_at_n56 : GoodIn wsX4_isAgreed (wsX11_at) := ggX4_isAgreed_X11_at
theorem dX4_isAgreed_0 : decode cX4_isAgreed 0 = .ok (.iconst 0, 1) := by decide +kernel
theorem dX4_isAgreed_1 : decode cX4_isAgreed 1 = .ok (.istore_n 3, 1) := by decide +kernel
theorem dX4_isAgreed_2 : decode cX4_isAgreed 2 = .ok (.iload_n 3, 1) := by decide +kernel
theorem dX4_isAgreed_3 : decode cX4_isAgreed 3 = .ok (.aload_n 0, 1) := by decide +kernel
theorem dX4_isAgreed_4 : decode cX4_isAgreed 4 = .ok (.getfield 49, 3) := by decide +kernel
theorem dX4_isAgreed_7 : decode cX4_isAgreed 7 = .ok (.if_icmp .ge 35, 3) := by decide +kernel
theorem dX4_isAgreed_10 : decode cX4_isAgreed 10 = .ok (.aload_n 0, 1) := by decide +kernel
theorem dX4_isAgreed_11 : decode cX4_isAgreed 11 = .ok (.getfield 29, 3) := by decide +kernel
theorem dX4_isAgreed_14 : decode cX4_isAgreed 14 = .ok (.iload_n 3, 1) := by decide +kernel
theorem dX4_isAgreed_15 : decode cX4_isAgreed 15 = .ok (.invokestatic 56, 3) := by decide +kernel
theorem dX4_isAgreed_18 : decode cX4_isAgreed 18 = .ok (.iload_n 1, 1) := by decide +kernel
theorem dX4_isAgreed_19 : decode cX4_isAgreed 19 = .ok (.if_icmp .ne 17, 3) := by decide +kernel
theorem dX4_isAgreed_22 : decode cX4_isAgreed 22 = .ok (.aload_n 0, 1) := by decide +kernel
theorem dX4_isAgreed_23 : decode cX4_isAgreed 23 = .ok (.getfield 32, 3) := by decide +kernel
theorem dX4_isAgreed_26 : decode cX4_isAgreed 26 = .ok (.iload_n 3, 1) := by decide +kernel
theorem dX4_isAgreed_27 : decode cX4_isAgreed 27 = .ok (.invokestatic 56, 3) := by decide +kernel
theorem dX4_isAgreed_30 : decode cX4_isAgreed 30 = .ok (.iload_n 2, 1) := by decide +kernel
theorem dX4_isAgreed_31 : decode cX4_isAgreed 31 = .ok (.if_icmp .ne 5, 3) := by decide +kernel
theorem dX4_isAgreed_34 : decode cX4_isAgreed 34 = .ok (.iconst 1, 1) := by decide +kernel
theorem dX4_isAgreed_35 : decode cX4_isAgreed 35 = .ok (.ireturn, 1) := by decide +kernel
theorem dX4_isAgreed_36 : decode cX4_isAgreed 36 = .ok (.iinc 3 1, 3) := by decide +kernel
theorem dX4_isAgreed_39 : decode cX4_isAgreed 39 = .ok (.goto (-37), 3) := by decide +kernel
theorem dX4_isAgreed_42 : decode cX4_isAgreed 42 = .ok (.iconst 0, 1) := by decide +kernel
theorem dX4_isAgreed_43 : decode cX4_isAgreed 43 = .ok (.ireturn, 1) := by decide +kernel
set_option maxRecDepth 20000 in
theorem ggX4_addAgreed_X11_set : GoodIn wsX4_addAgreed wsX11_set := goodIn_r _ [7] (by decide +kernel) (by decide +kernel)
set_option maxRecDepth 20000 in
theorem gX4_addAgreed_X11_set_n60 : GoodIn wsX4_addAgreed (wsX11_set) := ggX4_addAgreed_X11_set
theorem dX4_addAgreed_0 : decode cX4_addAgreed 0 = .ok (.aload_n 0, 1) := by decide +kernel
theorem dX4_addAgreed_1 : decode cX4_addAgreed 1 = .ok (.getfield 29, 3) := by decide +kernel
theorem dX4_addAgreed_4 : decode cX4_addAgreed 4 = .ok (.aload_n 0, 1) := by decide +kernel
theorem dX4_addAgreed_5 : decode cX4_addAgreed 5 = .ok (.getfield 49, 3) := by decide +kernel
theorem dX4_addAgreed_8 : decode cX4_addAgreed 8 = .ok (.iload_n 1, 1) := by decide +kernel
theorem dX4_addAgreed_9 : decode cX4_addAgreed 9 = .ok (.invokestatic 60, 3) := by decide +kernel
theorem dX4_addAgreed_12 : decode cX4_addAgreed 12 = .ok (.aload_n 0, 1) := by decide +kernel
theorem dX4_addAgreed_13 : decode cX4_addAgreed 13 = .ok (.getfield 32, 3) := by decide +kernel
theorem dX4_addAgreed_16 : decode cX4_addAgreed 16 = .ok (.aload_n 0, 1) := by decide +kernel
theorem dX4_addAgreed_17 : decode cX4_addAgreed 17 = .ok (.getfield 49, 3) := by decide +kernel
theorem dX4_addAgreed_20 : decode cX4_addAgreed 20 = .ok (.iload_n 2, 1) := by decide +kernel
theorem dX4_addAgreed_21 : decode cX4_addAgreed 21 = .ok (.invokestatic 60, 3) := by decide +kernel
theorem dX4_addAgreed_24 : decode cX4_addAgreed 24 = .ok (.aload_n 0, 1) := by decide +kernel
theorem dX4_addAgreed_25 : decode cX4_addAgreed 25 = .ok (.getfield 35, 3) := by decide +kernel
theorem dX4_addAgreed_28 : decode cX4_addAgreed 28 = .ok (.aload_n 0, 1) := by decide +kernel
theorem dX4_addAgreed_29 : decode cX4_addAgreed 29 = .ok (.getfield 49, 3) := by decide +kernel
theorem dX4_addAgreed_32 : decode cX4_addAgreed 32 = .ok (.iload_n 3, 1) := by decide +kernel
theorem dX4_addAgreed_33 : decode cX4_addAgreed 33 = .ok (.invokestatic 60, 3) := by decide +kernel
theorem dX4_addAgreed_36 : decode cX4_addAgreed 36 = .ok (.aload_n 0, 1) := by decide +kernel
theorem dX4_addAgreed_37 : decode cX4_addAgreed 37 = .ok (.dup, 1) := by decide +kernel
theorem dX4_addAgreed_38 : decode cX4_addAgreed 38 = .ok (.getfield 49, 3) := by decide +kernel
theorem dX4_addAgreed_41 : decode cX4_addAgreed 41 = .ok (.iconst 1, 1) := by decide +kernel
theorem dX4_addAgreed_42 : decode cX4_addAgreed 42 = .ok (.iadd, 1) := by decide +kernel
theorem dX4_addAgreed_43 : decode cX4_addAgreed 43 = .ok (.putfield 49, 3) := by decide +kernel
theorem dX4_addAgreed_46 : decode cX4_addAgreed 46 = .ok (.return_, 1) := by decide +kernel
set_option maxRecDepth 20000 in
theorem ggX4_energyOf_X8_turned : GoodIn wsX4_energyOf wsX8_turned := goodIn_r _ [7] (by decide +kernel) (by decide +kernel)
set_option maxRecDepth 20000 in
theorem gX4_energyOf_X8_turned : GoodIn wsX4_energyOf (va_wsS RX4 64 yX8_turned wsX8_turned) := goodIn_app (goodIn_of _ (by decide +kernel)) ggX4_energyOf_X8_turned
set_option maxRecDepth 20000 in
theorem ggX4_energyOf_X4_products : GoodIn wsX4_energyOf wsX4_products := goodIn_r _ [11, 12, 13, 14, 15, 16, 17, 18] (by decide +kernel) (by decide +kernel)
set_option maxRecDepth 20000 in
theorem gX4_energyOf_X4_products : GoodIn wsX4_energyOf (va_wsS RX4 73 yX4_products wsX4_products) := goodIn_app (goodIn_of _ (by decide +kernel)) ggX4_energyOf_X4_products
theorem dX4_energyOf_0 : decode cX4_energyOf 0 = .ok (.iload_n 1, 1) := by decide +kernel
theorem dX4_energyOf_1 : decode cX4_energyOf 1 = .ok (.iload_n 2, 1) := by decide +kernel
theorem dX4_energyOf_2 : decode cX4_energyOf 2 = .ok (.invokestatic 64, 3) := by decide +kernel
theorem dX4_energyOf_5 : decode cX4_energyOf 5 = .ok (.istore_n 3, 1) := by decide +kernel
theorem dX4_energyOf_6 : decode cX4_energyOf 6 = .ok (.iload_n 3, 1) := by decide +kernel
theorem dX4_energyOf_7 : decode cX4_energyOf 7 = .ok (.iload_n 2, 1) := by decide +kernel
theorem dX4_energyOf_8 : decode cX4_energyOf 8 = .ok (.invokestatic 64, 3) := by decide +kernel
theorem dX4_energyOf_11 : decode cX4_energyOf 11 = .ok (.istore 4, 2) := by decide +kernel
theorem dX4_energyOf_13 : decode cX4_energyOf 13 = .ok (.iload 4, 2) := by decide +kernel
theorem dX4_energyOf_15 : decode cX4_energyOf 15 = .ok (.iload_n 2, 1) := by decide +kernel
theorem dX4_energyOf_16 : decode cX4_energyOf 16 = .ok (.invokestatic 64, 3) := by decide +kernel
theorem dX4_energyOf_19 : decode cX4_energyOf 19 = .ok (.istore 5, 2) := by decide +kernel
theorem dX4_energyOf_21 : decode cX4_energyOf 21 = .ok (.aload_n 0, 1) := by decide +kernel
theorem dX4_energyOf_22 : decode cX4_energyOf 22 = .ok (.getfield 70, 3) := by decide +kernel
theorem dX4_energyOf_25 : decode cX4_energyOf 25 = .ok (.ineg, 1) := by decide +kernel
theorem dX4_energyOf_26 : decode cX4_energyOf 26 = .ok (.iload_n 1, 1) := by decide +kernel
theorem dX4_energyOf_27 : decode cX4_energyOf 27 = .ok (.iload_n 3, 1) := by decide +kernel
theorem dX4_energyOf_28 : decode cX4_energyOf 28 = .ok (.iload_n 2, 1) := by decide +kernel
theorem dX4_energyOf_29 : decode cX4_energyOf 29 = .ok (.invokestatic 73, 3) := by decide +kernel
theorem dX4_energyOf_32 : decode cX4_energyOf 32 = .ok (.imul, 1) := by decide +kernel
theorem dX4_energyOf_33 : decode cX4_energyOf 33 = .ok (.aload_n 0, 1) := by decide +kernel
theorem dX4_energyOf_34 : decode cX4_energyOf 34 = .ok (.getfield 77, 3) := by decide +kernel
theorem dX4_energyOf_37 : decode cX4_energyOf 37 = .ok (.iload_n 1, 1) := by decide +kernel
theorem dX4_energyOf_38 : decode cX4_energyOf 38 = .ok (.iload 4, 2) := by decide +kernel
theorem dX4_energyOf_40 : decode cX4_energyOf 40 = .ok (.iload_n 2, 1) := by decide +kernel
theorem dX4_energyOf_41 : decode cX4_energyOf 41 = .ok (.invokestatic 73, 3) := by decide +kernel
theorem dX4_energyOf_44 : decode cX4_energyOf 44 = .ok (.imul, 1) := by decide +kernel
theorem dX4_energyOf_45 : decode cX4_energyOf 45 = .ok (.isub, 1) := by decide +kernel
theorem dX4_energyOf_46 : decode cX4_energyOf 46 = .ok (.aload_n 0, 1) := by decide +kernel
theorem dX4_energyOf_47 : decode cX4_energyOf 47 = .ok (.getfield 80, 3) := by decide +kernel
theorem dX4_energyOf_50 : decode cX4_energyOf 50 = .ok (.iload_n 1, 1) := by decide +kernel
theorem dX4_energyOf_51 : decode cX4_energyOf 51 = .ok (.iload 5, 2) := by decide +kernel
theorem dX4_energyOf_53 : decode cX4_energyOf 53 = .ok (.iload_n 2, 1) := by decide +kernel
theorem dX4_energyOf_54 : decode cX4_energyOf 54 = .ok (.invokestatic 73, 3) := by decide +kernel
theorem dX4_energyOf_57 : decode cX4_energyOf 57 = .ok (.imul, 1) := by decide +kernel
theorem dX4_energyOf_58 : decode cX4_energyOf 58 = .ok (.isub, 1) := by decide +kernel
theorem dX4_energyOf_59 : decode cX4_energyOf 59 = .ok (.ireturn, 1) := by decide +kernel
set_option maxRecDepth 20000 in
theorem ggX4_products_J6_bitCount_0f7a4 : GoodIn wsX4_products wsJ6_bitCount_0f7a4 := goodIn_r _ [4, 5, 6, 7] (by decide +kernel) (by decide +kernel)
set_option maxRecDepth 20000 in
theorem gX4_products_J6_bitCount_0f7a4 : GoodIn wsX4_products (va_wsS RX4 83 yJ6_bitCount_0f7a4 wsJ6_bitCount_0f7a4) := goodIn_app (goodIn_of _ (by decide +kernel)) ggX4_products_J6_bitCount_0f7a4
theorem dX4_products_0 : decode cX4_products 0 = .ok (.iload_n 2, 1) := by decide +kernel
theorem dX4_products_1 : decode cX4_products 1 = .ok (.iconst 2, 1) := by decide +kernel
theorem dX4_products_2 : decode cX4_products 2 = .ok (.iload_n 0, 1) := by decide +kernel
theorem dX4_products_3 : decode cX4_products 3 = .ok (.iload_n 1, 1) := by decide +kernel
theorem dX4_products_4 : decode cX4_products 4 = .ok (.ixor, 1) := by decide +kernel
theorem dX4_products_5 : decode cX4_products 5 = .ok (.invokestatic 83, 3) := by decide +kernel
theorem dX4_products_8 : decode cX4_products 8 = .ok (.imul, 1) := by decide +kernel
theorem dX4_products_9 : decode cX4_products 9 = .ok (.isub, 1) := by decide +kernel
theorem dX4_products_10 : decode cX4_products 10 = .ok (.ireturn, 1) := by decide +kernel
set_option maxRecDepth 20000 in
theorem ggX4_weakestStep_X8_bit : GoodIn wsX4_weakestStep wsX8_bit := goodIn_r _ [4] (by decide +kernel) (by decide +kernel)
set_option maxRecDepth 20000 in
theorem gX4_weakestStep_X8_bit : GoodIn wsX4_weakestStep (va_wsS RX4 89 yX8_bit wsX8_bit) := goodIn_app (goodIn_of _ (by decide +kernel)) ggX4_weakestStep_X8_bit
set_option maxRecDepth 20000 in
theorem ggX4_weakestStep_X4_energyOf : GoodIn wsX4_weakestStep wsX4_energyOf := goodIn_r _ [9, 10, 11, 12, 13, 14, 3, 15, 16, 17, 8, 18, 19, 20, 21, 22, 23, 24, 25, 26, 27, 28, 29, 30, 31, 32, 33, 34, 35, 36, 37, 38, 39] (by decide +kernel) (by decide +kernel)
set_option maxRecDepth 20000 in
theorem gX4_weakestStep_X4_energyOf : GoodIn wsX4_weakestStep (wsV RX4 92 RX4 yX4_energyOf wsX4_energyOf) := goodIn_app (goodIn_of _ (by decide +kernel)) ggX4_weakestStep_X4_energyOf
theorem dX4_weakestStep_0 : decode cX4_weakestStep 0 = .ok (.iconst 0, 1) := by decide +kernel
theorem dX4_weakestStep_1 : decode cX4_weakestStep 1 = .ok (.istore_n 3, 1) := by decide +kernel
theorem dX4_weakestStep_2 : decode cX4_weakestStep 2 = .ok (.iconst 1, 1) := by decide +kernel
theorem dX4_weakestStep_3 : decode cX4_weakestStep 3 = .ok (.istore 4, 2) := by decide +kernel
theorem dX4_weakestStep_5 : decode cX4_weakestStep 5 = .ok (.iload 4, 2) := by decide +kernel
theorem dX4_weakestStep_7 : decode cX4_weakestStep 7 = .ok (.iload_n 2, 1) := by decide +kernel
theorem dX4_weakestStep_8 : decode cX4_weakestStep 8 = .ok (.if_icmp .ge 40, 3) := by decide +kernel
theorem dX4_weakestStep_11 : decode cX4_weakestStep 11 = .ok (.aload_n 0, 1) := by decide +kernel
theorem dX4_weakestStep_12 : decode cX4_weakestStep 12 = .ok (.iload_n 1, 1) := by decide +kernel
theorem dX4_weakestStep_13 : decode cX4_weakestStep 13 = .ok (.iload_n 2, 1) := by decide +kernel
theorem dX4_weakestStep_14 : decode cX4_weakestStep 14 = .ok (.iload 4, 2) := by decide +kernel
theorem dX4_weakestStep_16 : decode cX4_weakestStep 16 = .ok (.invokestatic 89, 3) := by decide +kernel
theorem dX4_weakestStep_19 : decode cX4_weakestStep 19 = .ok (.ixor, 1) := by decide +kernel
theorem dX4_weakestStep_20 : decode cX4_weakestStep 20 = .ok (.iload_n 2, 1) := by decide +kernel
theorem dX4_weakestStep_21 : decode cX4_weakestStep 21 = .ok (.invokevirtual 92, 3) := by decide +kernel
theorem dX4_weakestStep_24 : decode cX4_weakestStep 24 = .ok (.aload_n 0, 1) := by decide +kernel
theorem dX4_weakestStep_25 : decode cX4_weakestStep 25 = .ok (.iload_n 1, 1) := by decide +kernel
theorem dX4_weakestStep_26 : decode cX4_weakestStep 26 = .ok (.iload_n 2, 1) := by decide +kernel
theorem dX4_weakestStep_27 : decode cX4_weakestStep 27 = .ok (.iload_n 3, 1) := by decide +kernel
theorem dX4_weakestStep_28 : decode cX4_weakestStep 28 = .ok (.invokestatic 89, 3) := by decide +kernel
theorem dX4_weakestStep_31 : decode cX4_weakestStep 31 = .ok (.ixor, 1) := by decide +kernel
theorem dX4_weakestStep_32 : decode cX4_weakestStep 32 = .ok (.iload_n 2, 1) := by decide +kernel
theorem dX4_weakestStep_33 : decode cX4_weakestStep 33 = .ok (.invokevirtual 92, 3) := by decide +kernel
theorem dX4_weakestStep_36 : decode cX4_weakestStep 36 = .ok (.if_icmp .ge 6, 3) := by decide +kernel
theorem dX4_weakestStep_39 : decode cX4_weakestStep 39 = .ok (.iload 4, 2) := by decide +kernel
theorem dX4_weakestStep_41 : decode cX4_weakestStep 41 = .ok (.istore_n 3, 1) := by decide +kernel
theorem dX4_weakestStep_42 : decode cX4_weakestStep 42 = .ok (.iinc 4 1, 3) := by decide +kernel
theorem dX4_weakestStep_45 : decode cX4_weakestStep 45 = .ok (.goto (-40), 3) := by decide +kernel
theorem dX4_weakestStep_48 : decode cX4_weakestStep 48 = .ok (.iload_n 3, 1) := by decide +kernel
theorem dX4_weakestStep_49 : decode cX4_weakestStep 49 = .ok (.ireturn, 1) := by decide +kernel
theorem dX5_init_0 : decode cX5_init 0 = .ok (.aload_n 0, 1) := by decide +kernel
theorem dX5_init_1 : decode cX5_init 1 = .ok (.invokespecial 3, 3) := by decide +kernel
theorem dX5_init_4 : decode cX5_init 4 = .ok (.aload_n 0, 1) := by decide +kernel
theorem dX5_init_5 : decode cX5_init 5 = .ok (.sipush 4096, 3) := by decide +kernel
theorem dX5_init_8 : decode cX5_init 8 = .ok (.newarray .int, 2) := by decide +kernel
theorem dX5_init_10 : decode cX5_init 10 = .ok (.putfield 11, 3) := by decide +kernel
theorem dX5_init_13 : decode cX5_init 13 = .ok (.aload_n 0, 1) := by decide +kernel
theorem dX5_init_14 : decode cX5_init 14 = .ok (.sipush 4096, 3) := by decide +kernel
theorem dX5_init_17 : decode cX5_init 17 = .ok (.newarray .int, 2) := by decide +kernel
theorem dX5_init_19 : decode cX5_init 19 = .ok (.putfield 15, 3) := by decide +kernel
theorem dX5_init_22 : decode cX5_init 22 = .ok (.aload_n 0, 1) := by decide +kernel
theorem dX5_init_23 : decode cX5_init 23 = .ok (.sipush 4096, 3) := by decide +kernel
theorem dX5_init_26 : decode cX5_init 26 = .ok (.newarray .boolean, 2) := by decide +kernel
theorem dX5_init_28 : decode cX5_init 28 = .ok (.putfield 18, 3) := by decide +kernel
theorem dX5_init_31 : decode cX5_init 31 = .ok (.return_, 1) := by decide +kernel
set_option maxRecDepth 20000 in
theorem ggX5_survey_X4_energyOf : GoodIn wsX5_survey wsX4_energyOf := goodIn_r _ [8, 9, 10, 11, 12, 13, 14, 15, 16, 17, 7, 18, 19, 20, 21, 22, 23, 24, 25, 38, 39, 40, 41, 42, 43, 44, 45, 46, 47, 48, 49, 50, 51] (by decide +kernel) (by decide +kernel)
set_option maxRecDepth 20000 in
theorem gX5_survey_X4_energyOf : GoodIn wsX5_survey (wsV RX5 29 RX4 yX4_energyOf wsX4_energyOf) := goodIn_app (goodIn_of _ (by decide +kernel)) ggX5_survey_X4_energyOf
set_option maxRecDepth 20000 in
theorem ggX5_survey_X11_set : GoodIn wsX5_survey wsX11_set := goodIn_r _ [28] (by decide +kernel) (by decide +kernel)
set_option maxRecDepth 20000 in
theorem gX5_survey_X11_set_n35 : GoodIn wsX5_survey (wsX11_set) := ggX5_survey_X11_set
theorem dX5_survey_0 : decode cX5_survey 0 = .ok (.aload_n 0, 1) := by decide +kernel
theorem dX5_survey_1 : decode cX5_survey 1 = .ok (.iload_n 2, 1) := by decide +kernel
theorem dX5_survey_2 : decode cX5_survey 2 = .ok (.putfield 22, 3) := by decide +kernel
theorem dX5_survey_5 : decode cX5_survey 5 = .ok (.aload_n 0, 1) := by decide +kernel
theorem dX5_survey_6 : decode cX5_survey 6 = .ok (.iconst 1, 1) := by decide +kernel
theorem dX5_survey_7 : decode cX5_survey 7 = .ok (.iload_n 2, 1) := by decide +kernel
theorem dX5_survey_8 : decode cX5_survey 8 = .ok (.ishl, 1) := by decide +kernel
theorem dX5_survey_9 : decode cX5_survey 9 = .ok (.putfield 26, 3) := by decide +kernel
theorem dX5_survey_12 : decode cX5_survey 12 = .ok (.iconst 0, 1) := by decide +kernel
theorem dX5_survey_13 : decode cX5_survey 13 = .ok (.istore_n 3, 1) := by decide +kernel
theorem dX5_survey_14 : decode cX5_survey 14 = .ok (.iload_n 3, 1) := by decide +kernel
theorem dX5_survey_15 : decode cX5_survey 15 = .ok (.aload_n 0, 1) := by decide +kernel
theorem dX5_survey_16 : decode cX5_survey 16 = .ok (.getfield 26, 3) := by decide +kernel
theorem dX5_survey_19 : decode cX5_survey 19 = .ok (.if_icmp .ge 23, 3) := by decide +kernel
theorem dX5_survey_22 : decode cX5_survey 22 = .ok (.aload_n 0, 1) := by decide +kernel
theorem dX5_survey_23 : decode cX5_survey 23 = .ok (.getfield 11, 3) := by decide +kernel
theorem dX5_survey_26 : decode cX5_survey 26 = .ok (.iload_n 3, 1) := by decide +kernel
theorem dX5_survey_27 : decode cX5_survey 27 = .ok (.aload_n 1, 1) := by decide +kernel
theorem dX5_survey_28 : decode cX5_survey 28 = .ok (.iload_n 3, 1) := by decide +kernel
theorem dX5_survey_29 : decode cX5_survey 29 = .ok (.iload_n 2, 1) := by decide +kernel
theorem dX5_survey_30 : decode cX5_survey 30 = .ok (.invokevirtual 29, 3) := by decide +kernel
theorem dX5_survey_33 : decode cX5_survey 33 = .ok (.invokestatic 35, 3) := by decide +kernel
theorem dX5_survey_36 : decode cX5_survey 36 = .ok (.iinc 3 1, 3) := by decide +kernel
theorem dX5_survey_39 : decode cX5_survey 39 = .ok (.goto (-25), 3) := by decide +kernel
theorem dX5_survey_42 : decode cX5_survey 42 = .ok (.return_, 1) := by decide +kernel
set_option maxRecDepth 20000 in
theorem ggX5_lowest_X11_at : GoodIn wsX5_lowest wsX11_at := goodIn_r _ [9] (by decide +kernel) (by decide +kernel)
set_option maxRecDepth 20000 in
theorem gX5_lowest_X11_at_n39 : GoodIn wsX5_lowest (wsX11_at) := ggX5_lowest_X11_at
theorem dX5_lowest_0 : decode cX5_lowest 0 = .ok (.aload_n 0, 1) := by decide +kernel
theorem dX5_lowest_1 : decode cX5_lowest 1 = .ok (.getfield 11, 3) := by decide +kernel
theorem dX5_lowest_4 : decode cX5_lowest 4 = .ok (.iconst 0, 1) := by decide +kernel
theorem dX5_lowest_5 : decode cX5_lowest 5 = .ok (.invokestatic 39, 3) := by decide +kernel
theorem dX5_lowest_8 : decode cX5_lowest 8 = .ok (.istore_n 1, 1) := by decide +kernel
theorem dX5_lowest_9 : decode cX5_lowest 9 = .ok (.iconst 1, 1) := by decide +kernel
theorem dX5_lowest_10 : decode cX5_lowest 10 = .ok (.istore_n 2, 1) := by decide +kernel
theorem dX5_lowest_11 : decode cX5_lowest 11 = .ok (.iload_n 2, 1) := by decide +kernel
theorem dX5_lowest_12 : decode cX5_lowest 12 = .ok (.aload_n 0, 1) := by decide +kernel
theorem dX5_lowest_13 : decode cX5_lowest 13 = .ok (.getfield 26, 3) := by decide +kernel
theorem dX5_lowest_16 : decode cX5_lowest 16 = .ok (.if_icmp .ge 22, 3) := by decide +kernel
theorem dX5_lowest_19 : decode cX5_lowest 19 = .ok (.iload_n 1, 1) := by decide +kernel
theorem dX5_lowest_20 : decode cX5_lowest 20 = .ok (.aload_n 0, 1) := by decide +kernel
theorem dX5_lowest_21 : decode cX5_lowest 21 = .ok (.getfield 11, 3) := by decide +kernel
theorem dX5_lowest_24 : decode cX5_lowest 24 = .ok (.iload_n 2, 1) := by decide +kernel
theorem dX5_lowest_25 : decode cX5_lowest 25 = .ok (.invokestatic 39, 3) := by decide +kernel
theorem dX5_lowest_28 : decode cX5_lowest 28 = .ok (.invokestatic 43, 3) := by decide +kernel
theorem dX5_lowest_31 : decode cX5_lowest 31 = .ok (.istore_n 1, 1) := by decide +kernel
theorem dX5_lowest_32 : decode cX5_lowest 32 = .ok (.iinc 2 1, 3) := by decide +kernel
theorem dX5_lowest_35 : decode cX5_lowest 35 = .ok (.goto (-24), 3) := by decide +kernel
theorem dX5_lowest_38 : decode cX5_lowest 38 = .ok (.iload_n 1, 1) := by decide +kernel
theorem dX5_lowest_39 : decode cX5_lowest 39 = .ok (.ireturn, 1) := by decide +kernel
set_option maxRecDepth 20000 in
theorem ggX5_lowestRow_X11_at : GoodIn wsX5_lowestRow wsX11_at := goodIn_r _ [5] (by decide +kernel) (by decide +kernel)
set_option maxRecDepth 20000 in
theorem gX5_lowestRow_X11_at_n39 : GoodIn wsX5_lowestRow (wsX11_at) := ggX5_lowestRow_X11_at
theorem dX5_lowestRow_0 : decode cX5_lowestRow 0 = .ok (.iconst 0, 1) := by decide +kernel
theorem dX5_lowestRow_1 : decode cX5_lowestRow 1 = .ok (.istore_n 1, 1) := by decide +kernel
theorem dX5_lowestRow_2 : decode cX5_lowestRow 2 = .ok (.iconst 1, 1) := by decide +kernel
theorem dX5_lowestRow_3 : decode cX5_lowestRow 3 = .ok (.istore_n 2, 1) := by decide +kernel
theorem dX5_lowestRow_4 : decode cX5_lowestRow 4 = .ok (.iload_n 2, 1) := by decide +kernel
theorem dX5_lowestRow_5 : decode cX5_lowestRow 5 = .ok (.aload_n 0, 1) := by decide +kernel
theorem dX5_lowestRow_6 : decode cX5_lowestRow 6 = .ok (.getfield 26, 3) := by decide +kernel
theorem dX5_lowestRow_9 : decode cX5_lowestRow 9 = .ok (.if_icmp .ge 30, 3) := by decide +kernel
theorem dX5_lowestRow_12 : decode cX5_lowestRow 12 = .ok (.aload_n 0, 1) := by decide +kernel
theorem dX5_lowestRow_13 : decode cX5_lowestRow 13 = .ok (.getfield 11, 3) := by decide +kernel
theorem dX5_lowestRow_16 : decode cX5_lowestRow 16 = .ok (.iload_n 2, 1) := by decide +kernel
theorem dX5_lowestRow_17 : decode cX5_lowestRow 17 = .ok (.invokestatic 39, 3) := by decide +kernel
theorem dX5_lowestRow_20 : decode cX5_lowestRow 20 = .ok (.aload_n 0, 1) := by decide +kernel
theorem dX5_lowestRow_21 : decode cX5_lowestRow 21 = .ok (.getfield 11, 3) := by decide +kernel
theorem dX5_lowestRow_24 : decode cX5_lowestRow 24 = .ok (.iload_n 1, 1) := by decide +kernel
theorem dX5_lowestRow_25 : decode cX5_lowestRow 25 = .ok (.invokestatic 39, 3) := by decide +kernel
theorem dX5_lowestRow_28 : decode cX5_lowestRow 28 = .ok (.if_icmp .ge 5, 3) := by decide +kernel
theorem dX5_lowestRow_31 : decode cX5_lowestRow 31 = .ok (.iload_n 2, 1) := by decide +kernel
theorem dX5_lowestRow_32 : decode cX5_lowestRow 32 = .ok (.istore_n 1, 1) := by decide +kernel
theorem dX5_lowestRow_33 : decode cX5_lowestRow 33 = .ok (.iinc 2 1, 3) := by decide +kernel
theorem dX5_lowestRow_36 : decode cX5_lowestRow 36 = .ok (.goto (-32), 3) := by decide +kernel
theorem dX5_lowestRow_39 : decode cX5_lowestRow 39 = .ok (.iload_n 1, 1) := by decide +kernel
theorem dX5_lowestRow_40 : decode cX5_lowestRow 40 = .ok (.ireturn, 1) := by decide +kernel
set_option maxRecDepth 20000 in
theorem ggX5_lowestMany_X5_lowest : GoodIn wsX5_lowestMany wsX5_lowest := goodIn_r _ [7, 2, 1, 8, 9, 10, 11, 12, 13, 14, 15, 16, 17, 18, 19, 20, 21, 22, 23] (by decide +kernel) (by decide +kernel)
set_option maxRecDepth 20000 in
theorem gX5_lowestMany_X5_lowest : GoodIn wsX5_lowestMany (wsV RX5 48 RX5 yX5_lowest wsX5_lowest) := goodIn_app (goodIn_of _ (by decide +kernel)) ggX5_lowestMany_X5_lowest
set_option maxRecDepth 20000 in
theorem ggX5_lowestMany_X11_at : GoodIn wsX5_lowestMany wsX11_at := goodIn_r _ [14] (by decide +kernel) (by decide +kernel)
set_option maxRecDepth 20000 in
theorem gX5_lowestMany_X11_at_n39 : GoodIn wsX5_lowestMany (wsX11_at) := ggX5_lowestMany_X11_at
theorem dX5_lowestMany_0 : decode cX5_lowestMany 0 = .ok (.aload_n 0, 1) := by decide +kernel
theorem dX5_lowestMany_1 : decode cX5_lowestMany 1 = .ok (.invokevirtual 48, 3) := by decide +kernel
theorem dX5_lowestMany_4 : decode cX5_lowestMany 4 = .ok (.istore_n 1, 1) := by decide +kernel
theorem dX5_lowestMany_5 : decode cX5_lowestMany 5 = .ok (.iconst 0, 1) := by decide +kernel
theorem dX5_lowestMany_6 : decode cX5_lowestMany 6 = .ok (.istore_n 2, 1) := by decide +kernel
theorem dX5_lowestMany_7 : decode cX5_lowestMany 7 = .ok (.iconst 0, 1) := by decide +kernel
theorem dX5_lowestMany_8 : decode cX5_lowestMany 8 = .ok (.istore_n 3, 1) := by decide +kernel
theorem dX5_lowestMany_9 : decode cX5_lowestMany 9 = .ok (.iload_n 3, 1) := by decide +kernel
theorem dX5_lowestMany_10 : decode cX5_lowestMany 10 = .ok (.aload_n 0, 1) := by decide +kernel
theorem dX5_lowestMany_11 : decode cX5_lowestMany 11 = .ok (.getfield 26, 3) := by decide +kernel
theorem dX5_lowestMany_14 : decode cX5_lowestMany 14 = .ok (.if_icmp .ge 29, 3) := by decide +kernel
theorem dX5_lowestMany_17 : decode cX5_lowestMany 17 = .ok (.iload_n 2, 1) := by decide +kernel
theorem dX5_lowestMany_18 : decode cX5_lowestMany 18 = .ok (.aload_n 0, 1) := by decide +kernel
theorem dX5_lowestMany_19 : decode cX5_lowestMany 19 = .ok (.getfield 11, 3) := by decide +kernel
theorem dX5_lowestMany_22 : decode cX5_lowestMany 22 = .ok (.iload_n 3, 1) := by decide +kernel
theorem dX5_lowestMany_23 : decode cX5_lowestMany 23 = .ok (.invokestatic 39, 3) := by decide +kernel
theorem dX5_lowestMany_26 : decode cX5_lowestMany 26 = .ok (.iload_n 1, 1) := by decide +kernel
theorem dX5_lowestMany_27 : decode cX5_lowestMany 27 = .ok (.if_icmp .ne 7, 3) := by decide +kernel
theorem dX5_lowestMany_30 : decode cX5_lowestMany 30 = .ok (.iconst 1, 1) := by decide +kernel
theorem dX5_lowestMany_31 : decode cX5_lowestMany 31 = .ok (.goto 4, 3) := by decide +kernel
theorem dX5_lowestMany_34 : decode cX5_lowestMany 34 = .ok (.iconst 0, 1) := by decide +kernel
theorem dX5_lowestMany_35 : decode cX5_lowestMany 35 = .ok (.iadd, 1) := by decide +kernel
theorem dX5_lowestMany_36 : decode cX5_lowestMany 36 = .ok (.istore_n 2, 1) := by decide +kernel
theorem dX5_lowestMany_37 : decode cX5_lowestMany 37 = .ok (.iinc 3 1, 3) := by decide +kernel
theorem dX5_lowestMany_40 : decode cX5_lowestMany 40 = .ok (.goto (-31), 3) := by decide +kernel
theorem dX5_lowestMany_43 : decode cX5_lowestMany 43 = .ok (.iload_n 2, 1) := by decide +kernel
theorem dX5_lowestMany_44 : decode cX5_lowestMany 44 = .ok (.ireturn, 1) := by decide +kernel
set_option maxRecDepth 20000 in
theorem ggX5_flood_X5_reach : GoodIn wsX5_flood wsX5_reach := goodIn_r _ [16, 1, 6, 2, 17, 18, 19, 22, 23, 24, 25, 26, 27, 28, 29, 30] (by decide +kernel) (by decide +kernel)
set_option maxRecDepth 20000 in
theorem gX5_flood_X5_reach : GoodIn wsX5_flood (wsV RX5 59 RX5 yX5_reach wsX5_reach) := goodIn_app (goodIn_of _ (by decide +kernel)) ggX5_flood_X5_reach
set_option maxRecDepth 20000 in
theorem ggX5_flood_X11_at : GoodIn wsX5_flood wsX11_at := goodIn_r _ [21] (by decide +kernel) (by decide +kernel)
set_option maxRecDepth 20000 in
theorem gX5_flood_X11_at_n39 : GoodIn wsX5_flood (wsX11_at) := ggX5_flood_X11_at
theorem dX5_flood_0 : decode cX5_flood 0 = .ok (.iconst 0, 1) := by decide +kernel
theorem dX5_flood_1 : decode cX5_flood 1 = .ok (.istore_n 3, 1) := by decide +kernel
theorem dX5_flood_2 : decode cX5_flood 2 = .ok (.iload_n 3, 1) := by decide +kernel
theorem dX5_flood_3 : decode cX5_flood 3 = .ok (.aload_n 0, 1) := by decide +kernel
theorem dX5_flood_4 : decode cX5_flood 4 = .ok (.getfield 18, 3) := by decide +kernel
theorem dX5_flood_7 : decode cX5_flood 7 = .ok (.arraylength, 1) := by decide +kernel
theorem dX5_flood_8 : decode cX5_flood 8 = .ok (.if_icmp .ge 16, 3) := by decide +kernel
theorem dX5_flood_11 : decode cX5_flood 11 = .ok (.aload_n 0, 1) := by decide +kernel
theorem dX5_flood_12 : decode cX5_flood 12 = .ok (.getfield 18, 3) := by decide +kernel
theorem dX5_flood_15 : decode cX5_flood 15 = .ok (.iload_n 3, 1) := by decide +kernel
theorem dX5_flood_16 : decode cX5_flood 16 = .ok (.iconst 0, 1) := by decide +kernel
theorem dX5_flood_17 : decode cX5_flood 17 = .ok (.bastore, 1) := by decide +kernel
theorem dX5_flood_18 : decode cX5_flood 18 = .ok (.iinc 3 1, 3) := by decide +kernel
theorem dX5_flood_21 : decode cX5_flood 21 = .ok (.goto (-19), 3) := by decide +kernel
theorem dX5_flood_24 : decode cX5_flood 24 = .ok (.aload_n 0, 1) := by decide +kernel
theorem dX5_flood_25 : decode cX5_flood 25 = .ok (.iconst 0, 1) := by decide +kernel
theorem dX5_flood_26 : decode cX5_flood 26 = .ok (.putfield 52, 3) := by decide +kernel
theorem dX5_flood_29 : decode cX5_flood 29 = .ok (.aload_n 0, 1) := by decide +kernel
theorem dX5_flood_30 : decode cX5_flood 30 = .ok (.ldc 55, 2) := by decide +kernel
theorem dX5_flood_32 : decode cX5_flood 32 = .ok (.putfield 56, 3) := by decide +kernel
theorem dX5_flood_35 : decode cX5_flood 35 = .ok (.aload_n 0, 1) := by decide +kernel
theorem dX5_flood_36 : decode cX5_flood 36 = .ok (.iload_n 1, 1) := by decide +kernel
theorem dX5_flood_37 : decode cX5_flood 37 = .ok (.invokevirtual 59, 3) := by decide +kernel
theorem dX5_flood_40 : decode cX5_flood 40 = .ok (.iconst 0, 1) := by decide +kernel
theorem dX5_flood_41 : decode cX5_flood 41 = .ok (.istore_n 3, 1) := by decide +kernel
theorem dX5_flood_42 : decode cX5_flood 42 = .ok (.iload_n 3, 1) := by decide +kernel
theorem dX5_flood_43 : decode cX5_flood 43 = .ok (.aload_n 0, 1) := by decide +kernel
theorem dX5_flood_44 : decode cX5_flood 44 = .ok (.getfield 52, 3) := by decide +kernel
theorem dX5_flood_47 : decode cX5_flood 47 = .ok (.if_icmp .ge 91, 3) := by decide +kernel
theorem dX5_flood_50 : decode cX5_flood 50 = .ok (.iload_n 3, 1) := by decide +kernel
theorem dX5_flood_51 : decode cX5_flood 51 = .ok (.sipush 4096, 3) := by decide +kernel
theorem dX5_flood_54 : decode cX5_flood 54 = .ok (.if_icmp .ge 84, 3) := by decide +kernel
theorem dX5_flood_57 : decode cX5_flood 57 = .ok (.iconst 0, 1) := by decide +kernel
theorem dX5_flood_58 : decode cX5_flood 58 = .ok (.istore 4, 2) := by decide +kernel
theorem dX5_flood_60 : decode cX5_flood 60 = .ok (.iload 4, 2) := by decide +kernel
theorem dX5_flood_62 : decode cX5_flood 62 = .ok (.aload_n 0, 1) := by decide +kernel
theorem dX5_flood_63 : decode cX5_flood 63 = .ok (.getfield 22, 3) := by decide +kernel
theorem dX5_flood_66 : decode cX5_flood 66 = .ok (.if_icmp .ge 66, 3) := by decide +kernel
theorem dX5_flood_69 : decode cX5_flood 69 = .ok (.aload_n 0, 1) := by decide +kernel
theorem dX5_flood_70 : decode cX5_flood 70 = .ok (.getfield 15, 3) := by decide +kernel
theorem dX5_flood_73 : decode cX5_flood 73 = .ok (.iload_n 3, 1) := by decide +kernel
theorem dX5_flood_74 : decode cX5_flood 74 = .ok (.invokestatic 39, 3) := by decide +kernel
theorem dX5_flood_77 : decode cX5_flood 77 = .ok (.iconst 1, 1) := by decide +kernel
theorem dX5_flood_78 : decode cX5_flood 78 = .ok (.iload 4, 2) := by decide +kernel
theorem dX5_flood_80 : decode cX5_flood 80 = .ok (.ishl, 1) := by decide +kernel
theorem dX5_flood_81 : decode cX5_flood 81 = .ok (.ixor, 1) := by decide +kernel
theorem dX5_flood_82 : decode cX5_flood 82 = .ok (.istore 5, 2) := by decide +kernel
theorem dX5_flood_84 : decode cX5_flood 84 = .ok (.aload_n 0, 1) := by decide +kernel
theorem dX5_flood_85 : decode cX5_flood 85 = .ok (.getfield 11, 3) := by decide +kernel
theorem dX5_flood_88 : decode cX5_flood 88 = .ok (.iload 5, 2) := by decide +kernel
theorem dX5_flood_90 : decode cX5_flood 90 = .ok (.invokestatic 39, 3) := by decide +kernel
theorem dX5_flood_93 : decode cX5_flood 93 = .ok (.iload_n 2, 1) := by decide +kernel
theorem dX5_flood_94 : decode cX5_flood 94 = .ok (.if_icmp .gt 12, 3) := by decide +kernel
theorem dX5_flood_97 : decode cX5_flood 97 = .ok (.aload_n 0, 1) := by decide +kernel
theorem dX5_flood_98 : decode cX5_flood 98 = .ok (.iload 5, 2) := by decide +kernel
theorem dX5_flood_100 : decode cX5_flood 100 = .ok (.invokevirtual 59, 3) := by decide +kernel
theorem dX5_flood_103 : decode cX5_flood 103 = .ok (.goto 23, 3) := by decide +kernel
theorem dX5_flood_106 : decode cX5_flood 106 = .ok (.aload_n 0, 1) := by decide +kernel
theorem dX5_flood_107 : decode cX5_flood 107 = .ok (.aload_n 0, 1) := by decide +kernel
theorem dX5_flood_108 : decode cX5_flood 108 = .ok (.getfield 56, 3) := by decide +kernel
theorem dX5_flood_111 : decode cX5_flood 111 = .ok (.aload_n 0, 1) := by decide +kernel
theorem dX5_flood_112 : decode cX5_flood 112 = .ok (.getfield 11, 3) := by decide +kernel
theorem dX5_flood_115 : decode cX5_flood 115 = .ok (.iload 5, 2) := by decide +kernel
theorem dX5_flood_117 : decode cX5_flood 117 = .ok (.invokestatic 39, 3) := by decide +kernel
theorem dX5_flood_120 : decode cX5_flood 120 = .ok (.invokestatic 43, 3) := by decide +kernel
theorem dX5_flood_123 : decode cX5_flood 123 = .ok (.putfield 56, 3) := by decide +kernel
theorem dX5_flood_126 : decode cX5_flood 126 = .ok (.iinc 4 1, 3) := by decide +kernel
theorem dX5_flood_129 : decode cX5_flood 129 = .ok (.goto (-69), 3) := by decide +kernel
theorem dX5_flood_132 : decode cX5_flood 132 = .ok (.iinc 3 1, 3) := by decide +kernel
theorem dX5_flood_135 : decode cX5_flood 135 = .ok (.goto (-93), 3) := by decide +kernel
theorem dX5_flood_138 : decode cX5_flood 138 = .ok (.aload_n 0, 1) := by decide +kernel
theorem dX5_flood_139 : decode cX5_flood 139 = .ok (.getfield 52, 3) := by decide +kernel
theorem dX5_flood_142 : decode cX5_flood 142 = .ok (.ireturn, 1) := by decide +kernel
set_option maxRecDepth 20000 in
theorem ggX5_reach_X11_set : GoodIn wsX5_reach wsX11_set := goodIn_r _ [6] (by decide +kernel) (by decide +kernel)
set_option maxRecDepth 20000 in
theorem gX5_reach_X11_set_n35 : GoodIn wsX5_reach (wsX11_set) := ggX5_reach_X11_set
theorem dX5_reach_0 : decode cX5_reach 0 = .ok (.iload_n 1, 1) := by decide +kernel
theorem dX5_reach_1 : decode cX5_reach 1 = .ok (.ifCond .lt 50, 3) := by decide +kernel
theorem dX5_reach_4 : decode cX5_reach 4 = .ok (.iload_n 1, 1) := by decide +kernel
theorem dX5_reach_5 : decode cX5_reach 5 = .ok (.aload_n 0, 1) := by decide +kernel
theorem dX5_reach_6 : decode cX5_reach 6 = .ok (.getfield 18, 3) := by decide +kernel
theorem dX5_reach_9 : decode cX5_reach 9 = .ok (.arraylength, 1) := by decide +kernel
theorem dX5_reach_10 : decode cX5_reach 10 = .ok (.if_icmp .ge 41, 3) := by decide +kernel
theorem dX5_reach_13 : decode cX5_reach 13 = .ok (.aload_n 0, 1) := by decide +kernel
theorem dX5_reach_14 : decode cX5_reach 14 = .ok (.getfield 18, 3) := by decide +kernel
theorem dX5_reach_17 : decode cX5_reach 17 = .ok (.iload_n 1, 1) := by decide +kernel
theorem dX5_reach_18 : decode cX5_reach 18 = .ok (.baload, 1) := by decide +kernel
theorem dX5_reach_19 : decode cX5_reach 19 = .ok (.ifCond .ne 32, 3) := by decide +kernel
theorem dX5_reach_22 : decode cX5_reach 22 = .ok (.aload_n 0, 1) := by decide +kernel
theorem dX5_reach_23 : decode cX5_reach 23 = .ok (.getfield 18, 3) := by decide +kernel
theorem dX5_reach_26 : decode cX5_reach 26 = .ok (.iload_n 1, 1) := by decide +kernel
theorem dX5_reach_27 : decode cX5_reach 27 = .ok (.iconst 1, 1) := by decide +kernel
theorem dX5_reach_28 : decode cX5_reach 28 = .ok (.bastore, 1) := by decide +kernel
theorem dX5_reach_29 : decode cX5_reach 29 = .ok (.aload_n 0, 1) := by decide +kernel
theorem dX5_reach_30 : decode cX5_reach 30 = .ok (.getfield 15, 3) := by decide +kernel
theorem dX5_reach_33 : decode cX5_reach 33 = .ok (.aload_n 0, 1) := by decide +kernel
theorem dX5_reach_34 : decode cX5_reach 34 = .ok (.getfield 52, 3) := by decide +kernel
theorem dX5_reach_37 : decode cX5_reach 37 = .ok (.iload_n 1, 1) := by decide +kernel
theorem dX5_reach_38 : decode cX5_reach 38 = .ok (.invokestatic 35, 3) := by decide +kernel
theorem dX5_reach_41 : decode cX5_reach 41 = .ok (.aload_n 0, 1) := by decide +kernel
theorem dX5_reach_42 : decode cX5_reach 42 = .ok (.dup, 1) := by decide +kernel
theorem dX5_reach_43 : decode cX5_reach 43 = .ok (.getfield 52, 3) := by decide +kernel
theorem dX5_reach_46 : decode cX5_reach 46 = .ok (.iconst 1, 1) := by decide +kernel
theorem dX5_reach_47 : decode cX5_reach 47 = .ok (.iadd, 1) := by decide +kernel
theorem dX5_reach_48 : decode cX5_reach 48 = .ok (.putfield 52, 3) := by decide +kernel
theorem dX5_reach_51 : decode cX5_reach 51 = .ok (.return_, 1) := by decide +kernel
set_option maxRecDepth 20000 in
theorem ggX5_lowestPass_X11_at : GoodIn wsX5_lowestPass wsX11_at := goodIn_r _ [10] (by decide +kernel) (by decide +kernel)
set_option maxRecDepth 20000 in
theorem gX5_lowestPass_X11_at_n39 : GoodIn wsX5_lowestPass (wsX11_at) := ggX5_lowestPass_X11_at
set_option maxRecDepth 20000 in
theorem ggX5_lowestPass_X5_flood : GoodIn wsX5_lowestPass wsX5_flood := goodIn_r _ [15, 6, 16, 17, 7, 18, 19, 1, 20, 21, 4, 22, 23, 24, 25, 14, 26, 27, 9, 28, 8, 10, 29, 30, 31, 32, 33, 34, 35, 36, 37] (by decide +kernel) (by decide +kernel)
set_option maxRecDepth 20000 in
theorem gX5_lowestPass_X5_flood : GoodIn wsX5_lowestPass (wsV RX5 66 RX5 yX5_flood wsX5_flood) := goodIn_app (goodIn_of _ (by decide +kernel)) ggX5_lowestPass_X5_flood
theorem dX5_lowestPass_0 : decode cX5_lowestPass 0 = .ok (.aload_n 0, 1) := by decide +kernel
theorem dX5_lowestPass_1 : decode cX5_lowestPass 1 = .ok (.getfield 11, 3) := by decide +kernel
theorem dX5_lowestPass_4 : decode cX5_lowestPass 4 = .ok (.iload_n 1, 1) := by decide +kernel
theorem dX5_lowestPass_5 : decode cX5_lowestPass 5 = .ok (.invokestatic 39, 3) := by decide +kernel
theorem dX5_lowestPass_8 : decode cX5_lowestPass 8 = .ok (.aload_n 0, 1) := by decide +kernel
theorem dX5_lowestPass_9 : decode cX5_lowestPass 9 = .ok (.getfield 11, 3) := by decide +kernel
theorem dX5_lowestPass_12 : decode cX5_lowestPass 12 = .ok (.iload_n 2, 1) := by decide +kernel
theorem dX5_lowestPass_13 : decode cX5_lowestPass 13 = .ok (.invokestatic 39, 3) := by decide +kernel
theorem dX5_lowestPass_16 : decode cX5_lowestPass 16 = .ok (.invokestatic 63, 3) := by decide +kernel
theorem dX5_lowestPass_19 : decode cX5_lowestPass 19 = .ok (.istore_n 3, 1) := by decide +kernel
theorem dX5_lowestPass_20 : decode cX5_lowestPass 20 = .ok (.iconst 0, 1) := by decide +kernel
theorem dX5_lowestPass_21 : decode cX5_lowestPass 21 = .ok (.istore 4, 2) := by decide +kernel
theorem dX5_lowestPass_23 : decode cX5_lowestPass 23 = .ok (.iload 4, 2) := by decide +kernel
theorem dX5_lowestPass_25 : decode cX5_lowestPass 25 = .ok (.sipush 4096, 3) := by decide +kernel
theorem dX5_lowestPass_28 : decode cX5_lowestPass 28 = .ok (.if_icmp .ge 45, 3) := by decide +kernel
theorem dX5_lowestPass_31 : decode cX5_lowestPass 31 = .ok (.aload_n 0, 1) := by decide +kernel
theorem dX5_lowestPass_32 : decode cX5_lowestPass 32 = .ok (.iload_n 1, 1) := by decide +kernel
theorem dX5_lowestPass_33 : decode cX5_lowestPass 33 = .ok (.iload_n 3, 1) := by decide +kernel
theorem dX5_lowestPass_34 : decode cX5_lowestPass 34 = .ok (.invokevirtual 66, 3) := by decide +kernel
theorem dX5_lowestPass_37 : decode cX5_lowestPass 37 = .ok (.pop, 1) := by decide +kernel
theorem dX5_lowestPass_38 : decode cX5_lowestPass 38 = .ok (.iload_n 2, 1) := by decide +kernel
theorem dX5_lowestPass_39 : decode cX5_lowestPass 39 = .ok (.ifCond .lt 23, 3) := by decide +kernel
theorem dX5_lowestPass_42 : decode cX5_lowestPass 42 = .ok (.iload_n 2, 1) := by decide +kernel
theorem dX5_lowestPass_43 : decode cX5_lowestPass 43 = .ok (.aload_n 0, 1) := by decide +kernel
theorem dX5_lowestPass_44 : decode cX5_lowestPass 44 = .ok (.getfield 18, 3) := by decide +kernel
theorem dX5_lowestPass_47 : decode cX5_lowestPass 47 = .ok (.arraylength, 1) := by decide +kernel
theorem dX5_lowestPass_48 : decode cX5_lowestPass 48 = .ok (.if_icmp .ge 14, 3) := by decide +kernel
theorem dX5_lowestPass_51 : decode cX5_lowestPass 51 = .ok (.aload_n 0, 1) := by decide +kernel
theorem dX5_lowestPass_52 : decode cX5_lowestPass 52 = .ok (.getfield 18, 3) := by decide +kernel
theorem dX5_lowestPass_55 : decode cX5_lowestPass 55 = .ok (.iload_n 2, 1) := by decide +kernel
theorem dX5_lowestPass_56 : decode cX5_lowestPass 56 = .ok (.baload, 1) := by decide +kernel
theorem dX5_lowestPass_57 : decode cX5_lowestPass 57 = .ok (.ifCond .eq 5, 3) := by decide +kernel
theorem dX5_lowestPass_60 : decode cX5_lowestPass 60 = .ok (.iload_n 3, 1) := by decide +kernel
theorem dX5_lowestPass_61 : decode cX5_lowestPass 61 = .ok (.ireturn, 1) := by decide +kernel
theorem dX5_lowestPass_62 : decode cX5_lowestPass 62 = .ok (.aload_n 0, 1) := by decide +kernel
theorem dX5_lowestPass_63 : decode cX5_lowestPass 63 = .ok (.getfield 56, 3) := by decide +kernel
theorem dX5_lowestPass_66 : decode cX5_lowestPass 66 = .ok (.istore_n 3, 1) := by decide +kernel
theorem dX5_lowestPass_67 : decode cX5_lowestPass 67 = .ok (.iinc 4 1, 3) := by decide +kernel
theorem dX5_lowestPass_70 : decode cX5_lowestPass 70 = .ok (.goto (-47), 3) := by decide +kernel
theorem dX5_lowestPass_73 : decode cX5_lowestPass 73 = .ok (.iload_n 3, 1) := by decide +kernel
theorem dX5_lowestPass_74 : decode cX5_lowestPass 74 = .ok (.ireturn, 1) := by decide +kernel
set_option maxRecDepth 20000 in
theorem ggX5_settle_X4_weakestStep : GoodIn wsX5_settle wsX4_weakestStep := goodIn_r _ [7, 8, 9, 10, 11, 12, 13, 14, 6, 15, 16, 17, 18, 19, 20, 21, 22, 23, 24, 25, 26, 27, 28, 29, 30, 31, 43, 44, 45, 46, 47, 48, 49, 50, 51, 52, 53, 54, 55, 56] (by decide +kernel) (by decide +kernel)
set_option maxRecDepth 20000 in
theorem gX5_settle_X4_weakestStep : GoodIn wsX5_settle (wsV RX5 75 RX4 yX4_weakestStep wsX4_weakestStep) := goodIn_app (goodIn_of _ (by decide +kernel)) ggX5_settle_X4_weakestStep
set_option maxRecDepth 20000 in
theorem ggX5_settle_X8_bit : GoodIn wsX5_settle wsX8_bit := goodIn_r _ [11] (by decide +kernel) (by decide +kernel)
set_option maxRecDepth 20000 in
theorem gX5_settle_X8_bit : GoodIn wsX5_settle (va_wsS RX5 78 yX8_bit wsX8_bit) := goodIn_app (goodIn_of _ (by decide +kernel)) ggX5_settle_X8_bit
set_option maxRecDepth 20000 in
theorem ggX5_settle_X4_energyOf : GoodIn wsX5_settle wsX4_energyOf := goodIn_r _ [15, 16, 17, 18, 19, 20, 10, 21, 22, 23, 6, 24, 25, 26, 27, 28, 29, 30, 31, 43, 44, 45, 46, 47, 48, 49, 50, 51, 52, 53, 54, 55, 56] (by decide +kernel) (by decide +kernel)
set_option maxRecDepth 20000 in
theorem gX5_settle_X4_energyOf : GoodIn wsX5_settle (wsV RX5 29 RX4 yX4_energyOf wsX4_energyOf) := goodIn_app (goodIn_of _ (by decide +kernel)) ggX5_settle_X4_energyOf
theorem dX5_settle_0 : decode cX5_settle 0 = .ok (.aload_n 0, 1) := by decide +kernel
theorem dX5_settle_1 : decode cX5_settle 1 = .ok (.iload_n 2, 1) := by decide +kernel
theorem dX5_settle_2 : decode cX5_settle 2 = .ok (.putfield 69, 3) := by decide +kernel
theorem dX5_settle_5 : decode cX5_settle 5 = .ok (.aload_n 0, 1) := by decide +kernel
theorem dX5_settle_6 : decode cX5_settle 6 = .ok (.iconst 0, 1) := by decide +kernel
theorem dX5_settle_7 : decode cX5_settle 7 = .ok (.putfield 72, 3) := by decide +kernel
theorem dX5_settle_10 : decode cX5_settle 10 = .ok (.iconst 0, 1) := by decide +kernel
theorem dX5_settle_11 : decode cX5_settle 11 = .ok (.istore 4, 2) := by decide +kernel
theorem dX5_settle_13 : decode cX5_settle 13 = .ok (.iload 4, 2) := by decide +kernel
theorem dX5_settle_15 : decode cX5_settle 15 = .ok (.sipush 4096, 3) := by decide +kernel
theorem dX5_settle_18 : decode cX5_settle 18 = .ok (.if_icmp .ge 65, 3) := by decide +kernel
theorem dX5_settle_21 : decode cX5_settle 21 = .ok (.aload_n 0, 1) := by decide +kernel
theorem dX5_settle_22 : decode cX5_settle 22 = .ok (.getfield 69, 3) := by decide +kernel
theorem dX5_settle_25 : decode cX5_settle 25 = .ok (.iload_n 3, 1) := by decide +kernel
theorem dX5_settle_26 : decode cX5_settle 26 = .ok (.aload_n 1, 1) := by decide +kernel
theorem dX5_settle_27 : decode cX5_settle 27 = .ok (.aload_n 0, 1) := by decide +kernel
theorem dX5_settle_28 : decode cX5_settle 28 = .ok (.getfield 69, 3) := by decide +kernel
theorem dX5_settle_31 : decode cX5_settle 31 = .ok (.iload_n 3, 1) := by decide +kernel
theorem dX5_settle_32 : decode cX5_settle 32 = .ok (.invokevirtual 75, 3) := by decide +kernel
theorem dX5_settle_35 : decode cX5_settle 35 = .ok (.invokestatic 78, 3) := by decide +kernel
theorem dX5_settle_38 : decode cX5_settle 38 = .ok (.ixor, 1) := by decide +kernel
theorem dX5_settle_39 : decode cX5_settle 39 = .ok (.istore 5, 2) := by decide +kernel
theorem dX5_settle_41 : decode cX5_settle 41 = .ok (.aload_n 1, 1) := by decide +kernel
theorem dX5_settle_42 : decode cX5_settle 42 = .ok (.iload 5, 2) := by decide +kernel
theorem dX5_settle_44 : decode cX5_settle 44 = .ok (.iload_n 3, 1) := by decide +kernel
theorem dX5_settle_45 : decode cX5_settle 45 = .ok (.invokevirtual 29, 3) := by decide +kernel
theorem dX5_settle_48 : decode cX5_settle 48 = .ok (.aload_n 1, 1) := by decide +kernel
theorem dX5_settle_49 : decode cX5_settle 49 = .ok (.aload_n 0, 1) := by decide +kernel
theorem dX5_settle_50 : decode cX5_settle 50 = .ok (.getfield 69, 3) := by decide +kernel
theorem dX5_settle_53 : decode cX5_settle 53 = .ok (.iload_n 3, 1) := by decide +kernel
theorem dX5_settle_54 : decode cX5_settle 54 = .ok (.invokevirtual 29, 3) := by decide +kernel
theorem dX5_settle_57 : decode cX5_settle 57 = .ok (.if_icmp .lt 4, 3) := by decide +kernel
theorem dX5_settle_60 : decode cX5_settle 60 = .ok (.return_, 1) := by decide +kernel
theorem dX5_settle_61 : decode cX5_settle 61 = .ok (.aload_n 0, 1) := by decide +kernel
theorem dX5_settle_62 : decode cX5_settle 62 = .ok (.iload 5, 2) := by decide +kernel
theorem dX5_settle_64 : decode cX5_settle 64 = .ok (.putfield 69, 3) := by decide +kernel
theorem dX5_settle_67 : decode cX5_settle 67 = .ok (.aload_n 0, 1) := by decide +kernel
theorem dX5_settle_68 : decode cX5_settle 68 = .ok (.dup, 1) := by decide +kernel
theorem dX5_settle_69 : decode cX5_settle 69 = .ok (.getfield 72, 3) := by decide +kernel
theorem dX5_settle_72 : decode cX5_settle 72 = .ok (.iconst 1, 1) := by decide +kernel
theorem dX5_settle_73 : decode cX5_settle 73 = .ok (.iadd, 1) := by decide +kernel
theorem dX5_settle_74 : decode cX5_settle 74 = .ok (.putfield 72, 3) := by decide +kernel
theorem dX5_settle_77 : decode cX5_settle 77 = .ok (.iinc 4 1, 3) := by decide +kernel
theorem dX5_settle_80 : decode cX5_settle 80 = .ok (.goto (-67), 3) := by decide +kernel
theorem dX5_settle_83 : decode cX5_settle 83 = .ok (.return_, 1) := by decide +kernel
theorem dX6_init_0 : decode cX6_init 0 = .ok (.aload_n 0, 1) := by decide +kernel
theorem dX6_init_1 : decode cX6_init 1 = .ok (.invokespecial 3, 3) := by decide +kernel
theorem dX6_init_4 : decode cX6_init 4 = .ok (.aload_n 0, 1) := by decide +kernel
theorem dX6_init_5 : decode cX6_init 5 = .ok (.bipush 36, 2) := by decide +kernel
theorem dX6_init_7 : decode cX6_init 7 = .ok (.newarray .int, 2) := by decide +kernel
theorem dX6_init_9 : decode cX6_init 9 = .ok (.putfield 9, 3) := by decide +kernel
theorem dX6_init_12 : decode cX6_init 12 = .ok (.aload_n 0, 1) := by decide +kernel
theorem dX6_init_13 : decode cX6_init 13 = .ok (.bipush 36, 2) := by decide +kernel
theorem dX6_init_15 : decode cX6_init 15 = .ok (.newarray .int, 2) := by decide +kernel
theorem dX6_init_17 : decode cX6_init 17 = .ok (.putfield 15, 3) := by decide +kernel
theorem dX6_init_20 : decode cX6_init 20 = .ok (.return_, 1) := by decide +kernel
set_option maxRecDepth 20000 in
theorem ggX6_goesOut_X8_repeatsAfter : GoodIn wsX6_goesOut wsX8_repeatsAfter := goodIn_r _ [5, 6, 7, 4, 8, 9, 10, 11, 12, 13, 14, 15] (by decide +kernel) (by decide +kernel)
set_option maxRecDepth 20000 in
theorem gX6_goesOut_X8_repeatsAfter : GoodIn wsX6_goesOut (va_wsS RX6 18 yX8_repeatsAfter wsX8_repeatsAfter) := goodIn_app (goodIn_of _ (by decide +kernel)) ggX6_goesOut_X8_repeatsAfter
set_option maxRecDepth 20000 in
theorem ggX6_goesOut_X6_countPoints : GoodIn wsX6_goesOut wsX6_countPoints := goodIn_r _ [20, 21, 22, 23, 24, 25, 26, 27, 28, 4, 29, 30, 31, 32, 33, 34, 35, 45, 46] (by decide +kernel) (by decide +kernel)
set_option maxRecDepth 20000 in
theorem gX6_goesOut_X6_countPoints : GoodIn wsX6_goesOut (wsV RX6 24 RX6 yX6_countPoints wsX6_countPoints) := goodIn_app (goodIn_of _ (by decide +kernel)) ggX6_goesOut_X6_countPoints
set_option maxRecDepth 20000 in
theorem ggX6_goesOut_X6_subtractTurned : GoodIn wsX6_goesOut wsX6_subtractTurned := goodIn_r _ [39, 40, 21, 22, 23, 24, 25, 26, 45, 46] (by decide +kernel) (by decide +kernel)
set_option maxRecDepth 20000 in
theorem gX6_goesOut_X6_subtractTurned : GoodIn wsX6_goesOut (wsV RX6 31 RX6 yX6_subtractTurned wsX6_subtractTurned) := goodIn_app (goodIn_of _ (by decide +kernel)) ggX6_goesOut_X6_subtractTurned
set_option maxRecDepth 20000 in
theorem ggX6_goesOut_X6_isZero : GoodIn wsX6_goesOut wsX6_isZero := goodIn_r _ [44, 21, 22, 23, 24, 45, 46] (by decide +kernel) (by decide +kernel)
set_option maxRecDepth 20000 in
theorem gX6_goesOut_X6_isZero : GoodIn wsX6_goesOut (wsV RX6 35 RX6 yX6_isZero wsX6_isZero) := goodIn_app (goodIn_of _ (by decide +kernel)) ggX6_goesOut_X6_isZero
theorem dX6_goesOut_0 : decode cX6_goesOut 0 = .ok (.iload_n 1, 1) := by decide +kernel
theorem dX6_goesOut_1 : decode cX6_goesOut 1 = .ok (.iload_n 2, 1) := by decide +kernel
theorem dX6_goesOut_2 : decode cX6_goesOut 2 = .ok (.invokestatic 18, 3) := by decide +kernel
theorem dX6_goesOut_5 : decode cX6_goesOut 5 = .ok (.istore 4, 2) := by decide +kernel
theorem dX6_goesOut_7 : decode cX6_goesOut 7 = .ok (.iload 4, 2) := by decide +kernel
theorem dX6_goesOut_9 : decode cX6_goesOut 9 = .ok (.iconst 3, 1) := by decide +kernel
theorem dX6_goesOut_10 : decode cX6_goesOut 10 = .ok (.irem, 1) := by decide +kernel
theorem dX6_goesOut_11 : decode cX6_goesOut 11 = .ok (.ifCond .ne 8, 3) := by decide +kernel
theorem dX6_goesOut_14 : decode cX6_goesOut 14 = .ok (.iload 4, 2) := by decide +kernel
theorem dX6_goesOut_16 : decode cX6_goesOut 16 = .ok (.goto 7, 3) := by decide +kernel
theorem dX6_goesOut_19 : decode cX6_goesOut 19 = .ok (.iconst 3, 1) := by decide +kernel
theorem dX6_goesOut_20 : decode cX6_goesOut 20 = .ok (.iload 4, 2) := by decide +kernel
theorem dX6_goesOut_22 : decode cX6_goesOut 22 = .ok (.imul, 1) := by decide +kernel
theorem dX6_goesOut_23 : decode cX6_goesOut 23 = .ok (.istore 5, 2) := by decide +kernel
theorem dX6_goesOut_25 : decode cX6_goesOut 25 = .ok (.iload 4, 2) := by decide +kernel
theorem dX6_goesOut_27 : decode cX6_goesOut 27 = .ok (.iconst 1, 1) := by decide +kernel
theorem dX6_goesOut_28 : decode cX6_goesOut 28 = .ok (.if_icmp .lt 16, 3) := by decide +kernel
theorem dX6_goesOut_31 : decode cX6_goesOut 31 = .ok (.iload 5, 2) := by decide +kernel
theorem dX6_goesOut_33 : decode cX6_goesOut 33 = .ok (.iconst 1, 1) := by decide +kernel
theorem dX6_goesOut_34 : decode cX6_goesOut 34 = .ok (.if_icmp .lt 10, 3) := by decide +kernel
theorem dX6_goesOut_37 : decode cX6_goesOut 37 = .ok (.iload 5, 2) := by decide +kernel
theorem dX6_goesOut_39 : decode cX6_goesOut 39 = .ok (.bipush 36, 2) := by decide +kernel
theorem dX6_goesOut_41 : decode cX6_goesOut 41 = .ok (.if_icmp .le 5, 3) := by decide +kernel
theorem dX6_goesOut_44 : decode cX6_goesOut 44 = .ok (.iconst 0, 1) := by decide +kernel
theorem dX6_goesOut_45 : decode cX6_goesOut 45 = .ok (.ireturn, 1) := by decide +kernel
theorem dX6_goesOut_46 : decode cX6_goesOut 46 = .ok (.aload_n 0, 1) := by decide +kernel
theorem dX6_goesOut_47 : decode cX6_goesOut 47 = .ok (.iload_n 1, 1) := by decide +kernel
theorem dX6_goesOut_48 : decode cX6_goesOut 48 = .ok (.iload_n 2, 1) := by decide +kernel
theorem dX6_goesOut_49 : decode cX6_goesOut 49 = .ok (.iload 4, 2) := by decide +kernel
theorem dX6_goesOut_51 : decode cX6_goesOut 51 = .ok (.iload 5, 2) := by decide +kernel
theorem dX6_goesOut_53 : decode cX6_goesOut 53 = .ok (.iload 4, 2) := by decide +kernel
theorem dX6_goesOut_55 : decode cX6_goesOut 55 = .ok (.idiv, 1) := by decide +kernel
theorem dX6_goesOut_56 : decode cX6_goesOut 56 = .ok (.iload_n 3, 1) := by decide +kernel
theorem dX6_goesOut_57 : decode cX6_goesOut 57 = .ok (.imul, 1) := by decide +kernel
theorem dX6_goesOut_58 : decode cX6_goesOut 58 = .ok (.iload 5, 2) := by decide +kernel
theorem dX6_goesOut_60 : decode cX6_goesOut 60 = .ok (.invokevirtual 24, 3) := by decide +kernel
theorem dX6_goesOut_63 : decode cX6_goesOut 63 = .ok (.iconst 0, 1) := by decide +kernel
theorem dX6_goesOut_64 : decode cX6_goesOut 64 = .ok (.istore 6, 2) := by decide +kernel
theorem dX6_goesOut_66 : decode cX6_goesOut 66 = .ok (.iload 6, 2) := by decide +kernel
theorem dX6_goesOut_68 : decode cX6_goesOut 68 = .ok (.getstatic 28, 3) := by decide +kernel
theorem dX6_goesOut_71 : decode cX6_goesOut 71 = .ok (.arraylength, 1) := by decide +kernel
theorem dX6_goesOut_72 : decode cX6_goesOut 72 = .ok (.if_icmp .ge 41, 3) := by decide +kernel
theorem dX6_goesOut_75 : decode cX6_goesOut 75 = .ok (.getstatic 28, 3) := by decide +kernel
theorem dX6_goesOut_78 : decode cX6_goesOut 78 = .ok (.iload 6, 2) := by decide +kernel
theorem dX6_goesOut_80 : decode cX6_goesOut 80 = .ok (.iaload, 1) := by decide +kernel
theorem dX6_goesOut_81 : decode cX6_goesOut 81 = .ok (.istore 7, 2) := by decide +kernel
theorem dX6_goesOut_83 : decode cX6_goesOut 83 = .ok (.iload 7, 2) := by decide +kernel
theorem dX6_goesOut_85 : decode cX6_goesOut 85 = .ok (.ifCond .le 22, 3) := by decide +kernel
theorem dX6_goesOut_88 : decode cX6_goesOut 88 = .ok (.iload 5, 2) := by decide +kernel
theorem dX6_goesOut_90 : decode cX6_goesOut 90 = .ok (.iload 7, 2) := by decide +kernel
theorem dX6_goesOut_92 : decode cX6_goesOut 92 = .ok (.irem, 1) := by decide +kernel
theorem dX6_goesOut_93 : decode cX6_goesOut 93 = .ok (.ifCond .ne 14, 3) := by decide +kernel
theorem dX6_goesOut_96 : decode cX6_goesOut 96 = .ok (.aload_n 0, 1) := by decide +kernel
theorem dX6_goesOut_97 : decode cX6_goesOut 97 = .ok (.iload 5, 2) := by decide +kernel
theorem dX6_goesOut_99 : decode cX6_goesOut 99 = .ok (.iload 7, 2) := by decide +kernel
theorem dX6_goesOut_101 : decode cX6_goesOut 101 = .ok (.idiv, 1) := by decide +kernel
theorem dX6_goesOut_102 : decode cX6_goesOut 102 = .ok (.iload 5, 2) := by decide +kernel
theorem dX6_goesOut_104 : decode cX6_goesOut 104 = .ok (.invokevirtual 31, 3) := by decide +kernel
theorem dX6_goesOut_107 : decode cX6_goesOut 107 = .ok (.iinc 6 1, 3) := by decide +kernel
theorem dX6_goesOut_110 : decode cX6_goesOut 110 = .ok (.goto (-44), 3) := by decide +kernel
theorem dX6_goesOut_113 : decode cX6_goesOut 113 = .ok (.aload_n 0, 1) := by decide +kernel
theorem dX6_goesOut_114 : decode cX6_goesOut 114 = .ok (.iload 5, 2) := by decide +kernel
theorem dX6_goesOut_116 : decode cX6_goesOut 116 = .ok (.invokevirtual 35, 3) := by decide +kernel
theorem dX6_goesOut_119 : decode cX6_goesOut 119 = .ok (.ireturn, 1) := by decide +kernel
set_option maxRecDepth 20000 in
theorem ggX6_countPoints_X11_at : GoodIn wsX6_countPoints wsX11_at := goodIn_r _ [4] (by decide +kernel) (by decide +kernel)
set_option maxRecDepth 20000 in
theorem gX6_countPoints_X11_at_n39 : GoodIn wsX6_countPoints (wsX11_at) := ggX6_countPoints_X11_at
set_option maxRecDepth 20000 in
theorem ggX6_countPoints_X11_set : GoodIn wsX6_countPoints wsX11_set := goodIn_r _ [6] (by decide +kernel) (by decide +kernel)
set_option maxRecDepth 20000 in
theorem gX6_countPoints_X11_set_n43 : GoodIn wsX6_countPoints (wsX11_set) := ggX6_countPoints_X11_set
set_option maxRecDepth 20000 in
theorem ggX6_countPoints_X8_startsUp : GoodIn wsX6_countPoints wsX8_startsUp := goodIn_r _ [10] (by decide +kernel) (by decide +kernel)
set_option maxRecDepth 20000 in
theorem gX6_countPoints_X8_startsUp : GoodIn wsX6_countPoints (va_wsS RX6 47 yX8_startsUp wsX8_startsUp) := goodIn_app (goodIn_of _ (by decide +kernel)) ggX6_countPoints_X8_startsUp
set_option maxRecDepth 20000 in
theorem ggX6_countPoints_X8_letterBehind : GoodIn wsX6_countPoints wsX8_letterBehind := goodIn_r _ [13] (by decide +kernel) (by decide +kernel)
set_option maxRecDepth 20000 in
theorem gX6_countPoints_X8_letterBehind : GoodIn wsX6_countPoints (va_wsS RX6 51 yX8_letterBehind wsX8_letterBehind) := goodIn_app (goodIn_of _ (by decide +kernel)) ggX6_countPoints_X8_letterBehind
set_option maxRecDepth 20000 in
theorem ggX6_countPoints_X8_turned : GoodIn wsX6_countPoints wsX8_turned := goodIn_r _ [16] (by decide +kernel) (by decide +kernel)
set_option maxRecDepth 20000 in
theorem gX6_countPoints_X8_turned : GoodIn wsX6_countPoints (va_wsS RX6 55 yX8_turned wsX8_turned) := goodIn_app (goodIn_of _ (by decide +kernel)) ggX6_countPoints_X8_turned
theorem dX6_countPoints_0 : decode cX6_countPoints 0 = .ok (.iconst 0, 1) := by decide +kernel
theorem dX6_countPoints_1 : decode cX6_countPoints 1 = .ok (.istore 6, 2) := by decide +kernel
theorem dX6_countPoints_3 : decode cX6_countPoints 3 = .ok (.iload 6, 2) := by decide +kernel
theorem dX6_countPoints_5 : decode cX6_countPoints 5 = .ok (.aload_n 0, 1) := by decide +kernel
theorem dX6_countPoints_6 : decode cX6_countPoints 6 = .ok (.getfield 9, 3) := by decide +kernel
theorem dX6_countPoints_9 : decode cX6_countPoints 9 = .ok (.arraylength, 1) := by decide +kernel
theorem dX6_countPoints_10 : decode cX6_countPoints 10 = .ok (.if_icmp .ge 17, 3) := by decide +kernel
theorem dX6_countPoints_13 : decode cX6_countPoints 13 = .ok (.aload_n 0, 1) := by decide +kernel
theorem dX6_countPoints_14 : decode cX6_countPoints 14 = .ok (.getfield 9, 3) := by decide +kernel
theorem dX6_countPoints_17 : decode cX6_countPoints 17 = .ok (.iload 6, 2) := by decide +kernel
theorem dX6_countPoints_19 : decode cX6_countPoints 19 = .ok (.iconst 0, 1) := by decide +kernel
theorem dX6_countPoints_20 : decode cX6_countPoints 20 = .ok (.iastore, 1) := by decide +kernel
theorem dX6_countPoints_21 : decode cX6_countPoints 21 = .ok (.iinc 6 1, 3) := by decide +kernel
theorem dX6_countPoints_24 : decode cX6_countPoints 24 = .ok (.goto (-21), 3) := by decide +kernel
theorem dX6_countPoints_27 : decode cX6_countPoints 27 = .ok (.iconst 0, 1) := by decide +kernel
theorem dX6_countPoints_28 : decode cX6_countPoints 28 = .ok (.istore 6, 2) := by decide +kernel
theorem dX6_countPoints_30 : decode cX6_countPoints 30 = .ok (.iload_n 1, 1) := by decide +kernel
theorem dX6_countPoints_31 : decode cX6_countPoints 31 = .ok (.istore 7, 2) := by decide +kernel
theorem dX6_countPoints_33 : decode cX6_countPoints 33 = .ok (.iconst 0, 1) := by decide +kernel
theorem dX6_countPoints_34 : decode cX6_countPoints 34 = .ok (.istore 8, 2) := by decide +kernel
theorem dX6_countPoints_36 : decode cX6_countPoints 36 = .ok (.iload 8, 2) := by decide +kernel
theorem dX6_countPoints_38 : decode cX6_countPoints 38 = .ok (.iload_n 3, 1) := by decide +kernel
theorem dX6_countPoints_39 : decode cX6_countPoints 39 = .ok (.if_icmp .ge 77, 3) := by decide +kernel
theorem dX6_countPoints_42 : decode cX6_countPoints 42 = .ok (.iload 5, 2) := by decide +kernel
theorem dX6_countPoints_44 : decode cX6_countPoints 44 = .ok (.ifCond .le 22, 3) := by decide +kernel
theorem dX6_countPoints_47 : decode cX6_countPoints 47 = .ok (.iload 4, 2) := by decide +kernel
theorem dX6_countPoints_49 : decode cX6_countPoints 49 = .ok (.iload 8, 2) := by decide +kernel
theorem dX6_countPoints_51 : decode cX6_countPoints 51 = .ok (.imul, 1) := by decide +kernel
theorem dX6_countPoints_52 : decode cX6_countPoints 52 = .ok (.iload 5, 2) := by decide +kernel
theorem dX6_countPoints_54 : decode cX6_countPoints 54 = .ok (.iconst 3, 1) := by decide +kernel
theorem dX6_countPoints_55 : decode cX6_countPoints 55 = .ok (.idiv, 1) := by decide +kernel
theorem dX6_countPoints_56 : decode cX6_countPoints 56 = .ok (.iload 6, 2) := by decide +kernel
theorem dX6_countPoints_58 : decode cX6_countPoints 58 = .ok (.imul, 1) := by decide +kernel
theorem dX6_countPoints_59 : decode cX6_countPoints 59 = .ok (.iadd, 1) := by decide +kernel
theorem dX6_countPoints_60 : decode cX6_countPoints 60 = .ok (.iload 5, 2) := by decide +kernel
theorem dX6_countPoints_62 : decode cX6_countPoints 62 = .ok (.irem, 1) := by decide +kernel
theorem dX6_countPoints_63 : decode cX6_countPoints 63 = .ok (.goto 4, 3) := by decide +kernel
theorem dX6_countPoints_66 : decode cX6_countPoints 66 = .ok (.iconst 0, 1) := by decide +kernel
theorem dX6_countPoints_67 : decode cX6_countPoints 67 = .ok (.istore 9, 2) := by decide +kernel
theorem dX6_countPoints_69 : decode cX6_countPoints 69 = .ok (.aload_n 0, 1) := by decide +kernel
theorem dX6_countPoints_70 : decode cX6_countPoints 70 = .ok (.getfield 9, 3) := by decide +kernel
theorem dX6_countPoints_73 : decode cX6_countPoints 73 = .ok (.iload 9, 2) := by decide +kernel
theorem dX6_countPoints_75 : decode cX6_countPoints 75 = .ok (.aload_n 0, 1) := by decide +kernel
theorem dX6_countPoints_76 : decode cX6_countPoints 76 = .ok (.getfield 9, 3) := by decide +kernel
theorem dX6_countPoints_79 : decode cX6_countPoints 79 = .ok (.iload 9, 2) := by decide +kernel
theorem dX6_countPoints_81 : decode cX6_countPoints 81 = .ok (.invokestatic 39, 3) := by decide +kernel
theorem dX6_countPoints_84 : decode cX6_countPoints 84 = .ok (.iconst 1, 1) := by decide +kernel
theorem dX6_countPoints_85 : decode cX6_countPoints 85 = .ok (.iadd, 1) := by decide +kernel
theorem dX6_countPoints_86 : decode cX6_countPoints 86 = .ok (.invokestatic 43, 3) := by decide +kernel
theorem dX6_countPoints_89 : decode cX6_countPoints 89 = .ok (.iload 6, 2) := by decide +kernel
theorem dX6_countPoints_91 : decode cX6_countPoints 91 = .ok (.iload 7, 2) := by decide +kernel
theorem dX6_countPoints_93 : decode cX6_countPoints 93 = .ok (.iload_n 2, 1) := by decide +kernel
theorem dX6_countPoints_94 : decode cX6_countPoints 94 = .ok (.invokestatic 47, 3) := by decide +kernel
theorem dX6_countPoints_97 : decode cX6_countPoints 97 = .ok (.invokestatic 51, 3) := by decide +kernel
theorem dX6_countPoints_100 : decode cX6_countPoints 100 = .ok (.istore 6, 2) := by decide +kernel
theorem dX6_countPoints_102 : decode cX6_countPoints 102 = .ok (.iload 7, 2) := by decide +kernel
theorem dX6_countPoints_104 : decode cX6_countPoints 104 = .ok (.iload_n 2, 1) := by decide +kernel
theorem dX6_countPoints_105 : decode cX6_countPoints 105 = .ok (.invokestatic 55, 3) := by decide +kernel
theorem dX6_countPoints_108 : decode cX6_countPoints 108 = .ok (.istore 7, 2) := by decide +kernel
theorem dX6_countPoints_110 : decode cX6_countPoints 110 = .ok (.iinc 8 1, 3) := by decide +kernel
theorem dX6_countPoints_113 : decode cX6_countPoints 113 = .ok (.goto (-77), 3) := by decide +kernel
theorem dX6_countPoints_116 : decode cX6_countPoints 116 = .ok (.return_, 1) := by decide +kernel
set_option maxRecDepth 20000 in
theorem ggX6_subtractTurned_X11_at : GoodIn wsX6_subtractTurned wsX11_at := goodIn_r _ [5] (by decide +kernel) (by decide +kernel)
set_option maxRecDepth 20000 in
theorem gX6_subtractTurned_X11_at_n39 : GoodIn wsX6_subtractTurned (wsX11_at) := ggX6_subtractTurned_X11_at
set_option maxRecDepth 20000 in
theorem ggX6_subtractTurned_X11_set : GoodIn wsX6_subtractTurned wsX11_set := goodIn_r _ [7] (by decide +kernel) (by decide +kernel)
set_option maxRecDepth 20000 in
theorem gX6_subtractTurned_X11_set_n43 : GoodIn wsX6_subtractTurned (wsX11_set) := ggX6_subtractTurned_X11_set
theorem dX6_subtractTurned_0 : decode cX6_subtractTurned 0 = .ok (.iconst 0, 1) := by decide +kernel
theorem dX6_subtractTurned_1 : decode cX6_subtractTurned 1 = .ok (.istore_n 3, 1) := by decide +kernel
theorem dX6_subtractTurned_2 : decode cX6_subtractTurned 2 = .ok (.iload_n 3, 1) := by decide +kernel
theorem dX6_subtractTurned_3 : decode cX6_subtractTurned 3 = .ok (.iload_n 2, 1) := by decide +kernel
theorem dX6_subtractTurned_4 : decode cX6_subtractTurned 4 = .ok (.if_icmp .ge 53, 3) := by decide +kernel
theorem dX6_subtractTurned_7 : decode cX6_subtractTurned 7 = .ok (.iload_n 3, 1) := by decide +kernel
theorem dX6_subtractTurned_8 : decode cX6_subtractTurned 8 = .ok (.iload_n 1, 1) := by decide +kernel
theorem dX6_subtractTurned_9 : decode cX6_subtractTurned 9 = .ok (.if_icmp .lt 9, 3) := by decide +kernel
theorem dX6_subtractTurned_12 : decode cX6_subtractTurned 12 = .ok (.iload_n 3, 1) := by decide +kernel
theorem dX6_subtractTurned_13 : decode cX6_subtractTurned 13 = .ok (.iload_n 1, 1) := by decide +kernel
theorem dX6_subtractTurned_14 : decode cX6_subtractTurned 14 = .ok (.isub, 1) := by decide +kernel
theorem dX6_subtractTurned_15 : decode cX6_subtractTurned 15 = .ok (.goto 8, 3) := by decide +kernel
theorem dX6_subtractTurned_18 : decode cX6_subtractTurned 18 = .ok (.iload_n 3, 1) := by decide +kernel
theorem dX6_subtractTurned_19 : decode cX6_subtractTurned 19 = .ok (.iload_n 1, 1) := by decide +kernel
theorem dX6_subtractTurned_20 : decode cX6_subtractTurned 20 = .ok (.isub, 1) := by decide +kernel
theorem dX6_subtractTurned_21 : decode cX6_subtractTurned 21 = .ok (.iload_n 2, 1) := by decide +kernel
theorem dX6_subtractTurned_22 : decode cX6_subtractTurned 22 = .ok (.iadd, 1) := by decide +kernel
theorem dX6_subtractTurned_23 : decode cX6_subtractTurned 23 = .ok (.istore 4, 2) := by decide +kernel
theorem dX6_subtractTurned_25 : decode cX6_subtractTurned 25 = .ok (.aload_n 0, 1) := by decide +kernel
theorem dX6_subtractTurned_26 : decode cX6_subtractTurned 26 = .ok (.getfield 15, 3) := by decide +kernel
theorem dX6_subtractTurned_29 : decode cX6_subtractTurned 29 = .ok (.iload_n 3, 1) := by decide +kernel
theorem dX6_subtractTurned_30 : decode cX6_subtractTurned 30 = .ok (.aload_n 0, 1) := by decide +kernel
theorem dX6_subtractTurned_31 : decode cX6_subtractTurned 31 = .ok (.getfield 9, 3) := by decide +kernel
theorem dX6_subtractTurned_34 : decode cX6_subtractTurned 34 = .ok (.iload 4, 2) := by decide +kernel
theorem dX6_subtractTurned_36 : decode cX6_subtractTurned 36 = .ok (.invokestatic 39, 3) := by decide +kernel
theorem dX6_subtractTurned_39 : decode cX6_subtractTurned 39 = .ok (.aload_n 0, 1) := by decide +kernel
theorem dX6_subtractTurned_40 : decode cX6_subtractTurned 40 = .ok (.getfield 9, 3) := by decide +kernel
theorem dX6_subtractTurned_43 : decode cX6_subtractTurned 43 = .ok (.iload_n 3, 1) := by decide +kernel
theorem dX6_subtractTurned_44 : decode cX6_subtractTurned 44 = .ok (.invokestatic 39, 3) := by decide +kernel
theorem dX6_subtractTurned_47 : decode cX6_subtractTurned 47 = .ok (.isub, 1) := by decide +kernel
theorem dX6_subtractTurned_48 : decode cX6_subtractTurned 48 = .ok (.invokestatic 43, 3) := by decide +kernel
theorem dX6_subtractTurned_51 : decode cX6_subtractTurned 51 = .ok (.iinc 3 1, 3) := by decide +kernel
theorem dX6_subtractTurned_54 : decode cX6_subtractTurned 54 = .ok (.goto (-52), 3) := by decide +kernel
theorem dX6_subtractTurned_57 : decode cX6_subtractTurned 57 = .ok (.aload_n 0, 1) := by decide +kernel
theorem dX6_subtractTurned_58 : decode cX6_subtractTurned 58 = .ok (.getfield 9, 3) := by decide +kernel
theorem dX6_subtractTurned_61 : decode cX6_subtractTurned 61 = .ok (.astore_n 3, 1) := by decide +kernel
theorem dX6_subtractTurned_62 : decode cX6_subtractTurned 62 = .ok (.aload_n 0, 1) := by decide +kernel
theorem dX6_subtractTurned_63 : decode cX6_subtractTurned 63 = .ok (.aload_n 0, 1) := by decide +kernel
theorem dX6_subtractTurned_64 : decode cX6_subtractTurned 64 = .ok (.getfield 15, 3) := by decide +kernel
theorem dX6_subtractTurned_67 : decode cX6_subtractTurned 67 = .ok (.putfield 9, 3) := by decide +kernel
theorem dX6_subtractTurned_70 : decode cX6_subtractTurned 70 = .ok (.aload_n 0, 1) := by decide +kernel
theorem dX6_subtractTurned_71 : decode cX6_subtractTurned 71 = .ok (.aload_n 3, 1) := by decide +kernel
theorem dX6_subtractTurned_72 : decode cX6_subtractTurned 72 = .ok (.putfield 15, 3) := by decide +kernel
theorem dX6_subtractTurned_75 : decode cX6_subtractTurned 75 = .ok (.return_, 1) := by decide +kernel
set_option maxRecDepth 20000 in
theorem ggX6_isZero_X11_at : GoodIn wsX6_isZero wsX11_at := goodIn_r _ [4] (by decide +kernel) (by decide +kernel)
set_option maxRecDepth 20000 in
theorem gX6_isZero_X11_at_n39 : GoodIn wsX6_isZero (wsX11_at) := ggX6_isZero_X11_at
theorem dX6_isZero_0 : decode cX6_isZero 0 = .ok (.iconst 0, 1) := by decide +kernel
theorem dX6_isZero_1 : decode cX6_isZero 1 = .ok (.istore_n 2, 1) := by decide +kernel
theorem dX6_isZero_2 : decode cX6_isZero 2 = .ok (.iload_n 2, 1) := by decide +kernel
theorem dX6_isZero_3 : decode cX6_isZero 3 = .ok (.iload_n 1, 1) := by decide +kernel
theorem dX6_isZero_4 : decode cX6_isZero 4 = .ok (.if_icmp .ge 22, 3) := by decide +kernel
theorem dX6_isZero_7 : decode cX6_isZero 7 = .ok (.aload_n 0, 1) := by decide +kernel
theorem dX6_isZero_8 : decode cX6_isZero 8 = .ok (.getfield 9, 3) := by decide +kernel
theorem dX6_isZero_11 : decode cX6_isZero 11 = .ok (.iload_n 2, 1) := by decide +kernel
theorem dX6_isZero_12 : decode cX6_isZero 12 = .ok (.invokestatic 39, 3) := by decide +kernel
theorem dX6_isZero_15 : decode cX6_isZero 15 = .ok (.ifCond .eq 5, 3) := by decide +kernel
theorem dX6_isZero_18 : decode cX6_isZero 18 = .ok (.iconst 0, 1) := by decide +kernel
theorem dX6_isZero_19 : decode cX6_isZero 19 = .ok (.ireturn, 1) := by decide +kernel
theorem dX6_isZero_20 : decode cX6_isZero 20 = .ok (.iinc 2 1, 3) := by decide +kernel
theorem dX6_isZero_23 : decode cX6_isZero 23 = .ok (.goto (-21), 3) := by decide +kernel
theorem dX6_isZero_26 : decode cX6_isZero 26 = .ok (.iconst 1, 1) := by decide +kernel
theorem dX6_isZero_27 : decode cX6_isZero 27 = .ok (.ireturn, 1) := by decide +kernel
theorem dX7_init_0 : decode cX7_init 0 = .ok (.aload_n 0, 1) := by decide +kernel
theorem dX7_init_1 : decode cX7_init 1 = .ok (.invokespecial 3, 3) := by decide +kernel
theorem dX7_init_4 : decode cX7_init 4 = .ok (.aload_n 0, 1) := by decide +kernel
theorem dX7_init_5 : decode cX7_init 5 = .ok (.aload_n 1, 1) := by decide +kernel
theorem dX7_init_6 : decode cX7_init 6 = .ok (.putfield 9, 3) := by decide +kernel
theorem dX7_init_9 : decode cX7_init 9 = .ok (.return_, 1) := by decide +kernel
set_option maxRecDepth 20000 in
theorem ggX7_reads_X4_clear : GoodIn wsX7_reads wsX4_clear := goodIn_r _ [10, 11, 12, 13, 14, 210, 211, 212, 213, 214, 215, 216, 217, 218, 219, 220, 221, 222, 223, 224, 225, 226] (by decide +kernel) (by decide +kernel)
set_option maxRecDepth 20000 in
theorem gX7_reads_X4_clear : GoodIn wsX7_reads (wsV RX7 15 RX4 yX4_clear wsX4_clear) := goodIn_app (goodIn_of _ (by decide +kernel)) ggX7_reads_X4_clear
set_option maxRecDepth 20000 in
theorem ggX7_reads_X7_advance : GoodIn wsX7_reads wsX7_advance := goodIn_r _ [19, 3, 2, 20, 21, 22, 5, 4, 23, 24, 25, 26, 27, 28, 29, 30, 31, 18, 32, 33, 34, 35, 36, 37, 38, 39, 40, 41, 42, 43, 44, 200, 201, 202, 203, 204, 205, 206, 207, 208, 209, 227, 228] (by decide +kernel) (by decide +kernel)
set_option maxRecDepth 20000 in
theorem gX7_reads_X7_advance : GoodIn wsX7_reads (wsV RX7 30 RX7 yX7_advance wsX7_advance) := goodIn_app (goodIn_of _ (by decide +kernel)) ggX7_reads_X7_advance
set_option maxRecDepth 20000 in
theorem ggX7_reads_X7_mayBegin : GoodIn wsX7_reads wsX7_mayBegin := goodIn_r _ [48, 49, 50, 51, 18, 52, 4, 22, 53, 54, 55, 37, 56, 57, 58, 59, 60, 61, 62, 63, 64, 65, 66, 67, 68, 69, 70, 71, 72, 73, 74, 75, 76, 77, 78, 79, 80, 81, 82, 83, 84, 85, 86, 87, 88, 89, 90, 91, 92, 93, 94, 95, 96, 97, 98, 99, 100, 101, 102, 103, 104, 105, 106, 107, 108, 1, 210, 211, 212, 213, 214, 215, 216, 217, 218, 219, 220, 221, 222, 223, 224, 225, 226, 200, 201, 202, 203, 204, 205, 206, 207, 208, 209] (by decide +kernel) (by decide +kernel)
set_option maxRecDepth 20000 in
theorem gX7_reads_X7_mayBegin : GoodIn wsX7_reads (wsV RX7 35 RX7 yX7_mayBegin wsX7_mayBegin) := goodIn_app (goodIn_of _ (by decide +kernel)) ggX7_reads_X7_mayBegin
set_option maxRecDepth 20000 in
theorem ggX7_reads_X7_readsLine : GoodIn wsX7_reads wsX7_readsLine := goodIn_r _ [112, 49, 50, 51, 18, 52, 4, 22, 53, 54, 55, 37, 56, 57, 58, 59, 60, 61, 62, 63, 64, 65, 66, 67, 68, 69, 70, 71, 72, 73, 74, 75, 76, 77, 78, 79, 80, 81, 82, 83, 84, 85, 86, 87, 88, 89, 90, 91, 92, 93, 94, 95, 96, 97, 98, 99, 100, 101, 102, 103, 104, 113, 114, 115, 116, 117, 5, 15, 16, 17, 19, 3, 2, 20, 21, 23, 24, 25, 26, 27, 28, 29, 30, 31, 32, 33, 34, 35, 36, 38, 39, 40, 41, 42, 43, 44, 118, 119, 120, 121, 105, 106, 107, 108, 1, 122, 123, 124, 125, 126, 127, 128, 129, 130, 131, 132, 133, 134, 135, 136, 137, 138, 139, 140, 9, 141, 12, 142, 143, 144, 145, 146, 147, 148, 149, 150, 151, 152, 153, 154, 155, 156, 157, 158, 159, 160, 161, 162, 163, 164, 165, 166, 167, 168, 169, 170, 171, 172, 13, 173, 174, 175, 176, 177, 178, 179, 180, 181, 182, 183, 184, 185, 186, 187, 188, 189, 190, 191, 192, 14, 193, 194, 195, 196, 197, 198, 199, 200, 201, 202, 203, 204, 205, 206, 207, 208, 209, 210, 211, 212, 213, 214, 215, 216, 217, 218, 219, 220, 221, 222, 223, 227, 228, 224, 225, 226] (by decide +kernel) (by decide +kernel)
set_option maxRecDepth 20000 in
theorem gX7_reads_X7_readsLine : GoodIn wsX7_reads (wsV RX7 39 RX7 yX7_readsLine wsX7_readsLine) := goodIn_app (goodIn_of _ (by decide +kernel)) ggX7_reads_X7_readsLine
set_option maxRecDepth 20000 in
theorem ggX7_reads_X7_fails : GoodIn wsX7_reads wsX7_fails := goodIn_r _ [108, 1, 200, 201, 202, 203, 204, 205, 206, 207, 208, 209] (by decide +kernel) (by decide +kernel)
set_option maxRecDepth 20000 in
theorem gX7_reads_X7_fails : GoodIn wsX7_reads (wsV RX7 54 RX7 yX7_fails wsX7_fails) := goodIn_app (goodIn_of _ (by decide +kernel)) ggX7_reads_X7_fails
theorem dX7_reads_0 : decode cX7_reads 0 = .ok (.aload_n 1, 1) := by decide +kernel
theorem dX7_reads_1 : decode cX7_reads 1 = .ok (.invokevirtual 15, 3) := by decide +kernel
theorem dX7_reads_4 : decode cX7_reads 4 = .ok (.aload_n 0, 1) := by decide +kernel
theorem dX7_reads_5 : decode cX7_reads 5 = .ok (.iconst 0, 1) := by decide +kernel
theorem dX7_reads_6 : decode cX7_reads 6 = .ok (.putfield 20, 3) := by decide +kernel
theorem dX7_reads_9 : decode cX7_reads 9 = .ok (.aload_n 0, 1) := by decide +kernel
theorem dX7_reads_10 : decode cX7_reads 10 = .ok (.iload_n 2, 1) := by decide +kernel
theorem dX7_reads_11 : decode cX7_reads 11 = .ok (.putfield 24, 3) := by decide +kernel
theorem dX7_reads_14 : decode cX7_reads 14 = .ok (.aload_n 0, 1) := by decide +kernel
theorem dX7_reads_15 : decode cX7_reads 15 = .ok (.iconst 0, 1) := by decide +kernel
theorem dX7_reads_16 : decode cX7_reads 16 = .ok (.putfield 27, 3) := by decide +kernel
theorem dX7_reads_19 : decode cX7_reads 19 = .ok (.aload_n 0, 1) := by decide +kernel
theorem dX7_reads_20 : decode cX7_reads 20 = .ok (.invokevirtual 30, 3) := by decide +kernel
theorem dX7_reads_23 : decode cX7_reads 23 = .ok (.iconst 0, 1) := by decide +kernel
theorem dX7_reads_24 : decode cX7_reads 24 = .ok (.istore_n 3, 1) := by decide +kernel
theorem dX7_reads_25 : decode cX7_reads 25 = .ok (.iload_n 3, 1) := by decide +kernel
theorem dX7_reads_26 : decode cX7_reads 26 = .ok (.sipush 500, 3) := by decide +kernel
theorem dX7_reads_29 : decode cX7_reads 29 = .ok (.if_icmp .gt 86, 3) := by decide +kernel
theorem dX7_reads_32 : decode cX7_reads 32 = .ok (.aload_n 0, 1) := by decide +kernel
theorem dX7_reads_33 : decode cX7_reads 33 = .ok (.aload_n 1, 1) := by decide +kernel
theorem dX7_reads_34 : decode cX7_reads 34 = .ok (.invokevirtual 35, 3) := by decide +kernel
theorem dX7_reads_37 : decode cX7_reads 37 = .ok (.ifCond .eq 11, 3) := by decide +kernel
theorem dX7_reads_40 : decode cX7_reads 40 = .ok (.aload_n 0, 1) := by decide +kernel
theorem dX7_reads_41 : decode cX7_reads 41 = .ok (.aload_n 1, 1) := by decide +kernel
theorem dX7_reads_42 : decode cX7_reads 42 = .ok (.invokevirtual 39, 3) := by decide +kernel
theorem dX7_reads_45 : decode cX7_reads 45 = .ok (.ifCond .ne 5, 3) := by decide +kernel
theorem dX7_reads_48 : decode cX7_reads 48 = .ok (.iconst 0, 1) := by decide +kernel
theorem dX7_reads_49 : decode cX7_reads 49 = .ok (.ireturn, 1) := by decide +kernel
theorem dX7_reads_50 : decode cX7_reads 50 = .ok (.aload_n 0, 1) := by decide +kernel
theorem dX7_reads_51 : decode cX7_reads 51 = .ok (.getfield 42, 3) := by decide +kernel
theorem dX7_reads_54 : decode cX7_reads 54 = .ok (.ifCond .ne 28, 3) := by decide +kernel
theorem dX7_reads_57 : decode cX7_reads 57 = .ok (.aload_n 1, 1) := by decide +kernel
theorem dX7_reads_58 : decode cX7_reads 58 = .ok (.getfield 45, 3) := by decide +kernel
theorem dX7_reads_61 : decode cX7_reads 61 = .ok (.getfield 49, 3) := by decide +kernel
theorem dX7_reads_64 : decode cX7_reads 64 = .ok (.ifCond .gt 12, 3) := by decide +kernel
theorem dX7_reads_67 : decode cX7_reads 67 = .ok (.aload_n 0, 1) := by decide +kernel
theorem dX7_reads_68 : decode cX7_reads 68 = .ok (.bipush 6, 2) := by decide +kernel
theorem dX7_reads_70 : decode cX7_reads 70 = .ok (.invokevirtual 54, 3) := by decide +kernel
theorem dX7_reads_73 : decode cX7_reads 73 = .ok (.ifCond .eq 7, 3) := by decide +kernel
theorem dX7_reads_76 : decode cX7_reads 76 = .ok (.iconst 1, 1) := by decide +kernel
theorem dX7_reads_77 : decode cX7_reads 77 = .ok (.goto 4, 3) := by decide +kernel
theorem dX7_reads_80 : decode cX7_reads 80 = .ok (.iconst 0, 1) := by decide +kernel
theorem dX7_reads_81 : decode cX7_reads 81 = .ok (.ireturn, 1) := by decide +kernel
theorem dX7_reads_82 : decode cX7_reads 82 = .ok (.aload_n 0, 1) := by decide +kernel
theorem dX7_reads_83 : decode cX7_reads 83 = .ok (.getfield 42, 3) := by decide +kernel
theorem dX7_reads_86 : decode cX7_reads 86 = .ok (.iconst 3, 1) := by decide +kernel
theorem dX7_reads_87 : decode cX7_reads 87 = .ok (.if_icmp .ne 12, 3) := by decide +kernel
theorem dX7_reads_90 : decode cX7_reads 90 = .ok (.aload_n 0, 1) := by decide +kernel
theorem dX7_reads_91 : decode cX7_reads 91 = .ok (.getfield 58, 3) := by decide +kernel
theorem dX7_reads_94 : decode cX7_reads 94 = .ok (.bipush 59, 2) := by decide +kernel
theorem dX7_reads_96 : decode cX7_reads 96 = .ok (.if_icmp .eq 9, 3) := by decide +kernel
theorem dX7_reads_99 : decode cX7_reads 99 = .ok (.aload_n 0, 1) := by decide +kernel
theorem dX7_reads_100 : decode cX7_reads 100 = .ok (.iconst 1, 1) := by decide +kernel
theorem dX7_reads_101 : decode cX7_reads 101 = .ok (.invokevirtual 54, 3) := by decide +kernel
theorem dX7_reads_104 : decode cX7_reads 104 = .ok (.ireturn, 1) := by decide +kernel
theorem dX7_reads_105 : decode cX7_reads 105 = .ok (.aload_n 0, 1) := by decide +kernel
theorem dX7_reads_106 : decode cX7_reads 106 = .ok (.invokevirtual 30, 3) := by decide +kernel
theorem dX7_reads_109 : decode cX7_reads 109 = .ok (.iinc 3 1, 3) := by decide +kernel
theorem dX7_reads_112 : decode cX7_reads 112 = .ok (.goto (-87), 3) := by decide +kernel
theorem dX7_reads_115 : decode cX7_reads 115 = .ok (.aload_n 0, 1) := by decide +kernel
theorem dX7_reads_116 : decode cX7_reads 116 = .ok (.iconst 1, 1) := by decide +kernel
theorem dX7_reads_117 : decode cX7_reads 117 = .ok (.invokevirtual 54, 3) := by decide +kernel
theorem dX7_reads_120 : decode cX7_reads 120 = .ok (.ireturn, 1) := by decide +kernel
theorem dX7_fails_0 : decode cX7_fails 0 = .ok (.aload_n 0, 1) := by decide +kernel
theorem dX7_fails_1 : decode cX7_fails 1 = .ok (.iload_n 1, 1) := by decide +kernel
theorem dX7_fails_2 : decode cX7_fails 2 = .ok (.putfield 20, 3) := by decide +kernel
theorem dX7_fails_5 : decode cX7_fails 5 = .ok (.iconst 0, 1) := by decide +kernel
theorem dX7_fails_6 : decode cX7_fails 6 = .ok (.ireturn, 1) := by decide +kernel
set_option maxRecDepth 20000 in
theorem ggX7_mayBegin_X7_isWord : GoodIn wsX7_mayBegin wsX7_isWord := goodIn_r _ [5, 6, 7, 8, 9, 4, 10, 11, 12, 13, 14, 15, 16, 17, 18, 19, 20, 21, 22, 23, 24, 25, 26, 27, 28, 29, 30, 31, 32, 33, 34, 35, 36, 37, 38, 39, 40, 41, 42, 43, 44, 45, 46, 47, 48, 49, 50, 51, 52, 53, 54, 55, 56, 57, 58, 59, 60, 83, 84, 85, 86, 87, 88, 89, 90, 91, 92] (by decide +kernel) (by decide +kernel)
set_option maxRecDepth 20000 in
theorem gX7_mayBegin_X7_isWord : GoodIn wsX7_mayBegin (wsV RX7 63 RX7 yX7_isWord wsX7_isWord) := goodIn_app (goodIn_of _ (by decide +kernel)) ggX7_mayBegin_X7_isWord
set_option maxRecDepth 20000 in
theorem ggX7_mayBegin_X7_fails : GoodIn wsX7_mayBegin wsX7_fails := goodIn_r _ [64, 65, 83, 84, 85, 86, 87, 88, 89, 90, 91, 92] (by decide +kernel) (by decide +kernel)
set_option maxRecDepth 20000 in
theorem gX7_mayBegin_X7_fails : GoodIn wsX7_mayBegin (wsV RX7 54 RX7 yX7_fails wsX7_fails) := goodIn_app (goodIn_of _ (by decide +kernel)) ggX7_mayBegin_X7_fails
theorem dX7_mayBegin_0 : decode cX7_mayBegin 0 = .ok (.aload_n 0, 1) := by decide +kernel
theorem dX7_mayBegin_1 : decode cX7_mayBegin 1 = .ok (.ldc 61, 2) := by decide +kernel
theorem dX7_mayBegin_3 : decode cX7_mayBegin 3 = .ok (.invokevirtual 63, 3) := by decide +kernel
theorem dX7_mayBegin_6 : decode cX7_mayBegin 6 = .ok (.ifCond .eq 24, 3) := by decide +kernel
theorem dX7_mayBegin_9 : decode cX7_mayBegin 9 = .ok (.aload_n 1, 1) := by decide +kernel
theorem dX7_mayBegin_10 : decode cX7_mayBegin 10 = .ok (.getfield 67, 3) := by decide +kernel
theorem dX7_mayBegin_13 : decode cX7_mayBegin 13 = .ok (.ifCond .eq 11, 3) := by decide +kernel
theorem dX7_mayBegin_16 : decode cX7_mayBegin 16 = .ok (.aload_n 0, 1) := by decide +kernel
theorem dX7_mayBegin_17 : decode cX7_mayBegin 17 = .ok (.iconst 3, 1) := by decide +kernel
theorem dX7_mayBegin_18 : decode cX7_mayBegin 18 = .ok (.invokevirtual 54, 3) := by decide +kernel
theorem dX7_mayBegin_21 : decode cX7_mayBegin 21 = .ok (.ifCond .eq 7, 3) := by decide +kernel
theorem dX7_mayBegin_24 : decode cX7_mayBegin 24 = .ok (.iconst 1, 1) := by decide +kernel
theorem dX7_mayBegin_25 : decode cX7_mayBegin 25 = .ok (.goto 4, 3) := by decide +kernel
theorem dX7_mayBegin_28 : decode cX7_mayBegin 28 = .ok (.iconst 0, 1) := by decide +kernel
theorem dX7_mayBegin_29 : decode cX7_mayBegin 29 = .ok (.ireturn, 1) := by decide +kernel
theorem dX7_mayBegin_30 : decode cX7_mayBegin 30 = .ok (.aload_n 0, 1) := by decide +kernel
theorem dX7_mayBegin_31 : decode cX7_mayBegin 31 = .ok (.ldc 71, 2) := by decide +kernel
theorem dX7_mayBegin_33 : decode cX7_mayBegin 33 = .ok (.invokevirtual 63, 3) := by decide +kernel
theorem dX7_mayBegin_36 : decode cX7_mayBegin 36 = .ok (.istore_n 2, 1) := by decide +kernel
theorem dX7_mayBegin_37 : decode cX7_mayBegin 37 = .ok (.aload_n 0, 1) := by decide +kernel
theorem dX7_mayBegin_38 : decode cX7_mayBegin 38 = .ok (.ldc 73, 2) := by decide +kernel
theorem dX7_mayBegin_40 : decode cX7_mayBegin 40 = .ok (.invokevirtual 63, 3) := by decide +kernel
theorem dX7_mayBegin_43 : decode cX7_mayBegin 43 = .ok (.istore_n 3, 1) := by decide +kernel
theorem dX7_mayBegin_44 : decode cX7_mayBegin 44 = .ok (.aload_n 0, 1) := by decide +kernel
theorem dX7_mayBegin_45 : decode cX7_mayBegin 45 = .ok (.ldc 75, 2) := by decide +kernel
theorem dX7_mayBegin_47 : decode cX7_mayBegin 47 = .ok (.invokevirtual 63, 3) := by decide +kernel
theorem dX7_mayBegin_50 : decode cX7_mayBegin 50 = .ok (.istore 4, 2) := by decide +kernel
theorem dX7_mayBegin_52 : decode cX7_mayBegin 52 = .ok (.iload_n 2, 1) := by decide +kernel
theorem dX7_mayBegin_53 : decode cX7_mayBegin 53 = .ok (.ifCond .ne 18, 3) := by decide +kernel
theorem dX7_mayBegin_56 : decode cX7_mayBegin 56 = .ok (.iload_n 3, 1) := by decide +kernel
theorem dX7_mayBegin_57 : decode cX7_mayBegin 57 = .ok (.ifCond .ne 14, 3) := by decide +kernel
theorem dX7_mayBegin_60 : decode cX7_mayBegin 60 = .ok (.iload 4, 2) := by decide +kernel
theorem dX7_mayBegin_62 : decode cX7_mayBegin 62 = .ok (.ifCond .ne 9, 3) := by decide +kernel
theorem dX7_mayBegin_65 : decode cX7_mayBegin 65 = .ok (.aload_n 0, 1) := by decide +kernel
theorem dX7_mayBegin_66 : decode cX7_mayBegin 66 = .ok (.iconst 1, 1) := by decide +kernel
theorem dX7_mayBegin_67 : decode cX7_mayBegin 67 = .ok (.invokevirtual 54, 3) := by decide +kernel
theorem dX7_mayBegin_70 : decode cX7_mayBegin 70 = .ok (.ireturn, 1) := by decide +kernel
theorem dX7_mayBegin_71 : decode cX7_mayBegin 71 = .ok (.aload_n 1, 1) := by decide +kernel
theorem dX7_mayBegin_72 : decode cX7_mayBegin 72 = .ok (.getfield 67, 3) := by decide +kernel
theorem dX7_mayBegin_75 : decode cX7_mayBegin 75 = .ok (.ifCond .ne 10, 3) := by decide +kernel
theorem dX7_mayBegin_78 : decode cX7_mayBegin 78 = .ok (.aload_n 0, 1) := by decide +kernel
theorem dX7_mayBegin_79 : decode cX7_mayBegin 79 = .ok (.bipush 6, 2) := by decide +kernel
theorem dX7_mayBegin_81 : decode cX7_mayBegin 81 = .ok (.invokevirtual 54, 3) := by decide +kernel
theorem dX7_mayBegin_84 : decode cX7_mayBegin 84 = .ok (.ireturn, 1) := by decide +kernel
theorem dX7_mayBegin_85 : decode cX7_mayBegin 85 = .ok (.iload_n 2, 1) := by decide +kernel
theorem dX7_mayBegin_86 : decode cX7_mayBegin 86 = .ok (.ifCond .eq 14, 3) := by decide +kernel
theorem dX7_mayBegin_89 : decode cX7_mayBegin 89 = .ok (.aload_n 1, 1) := by decide +kernel
theorem dX7_mayBegin_90 : decode cX7_mayBegin 90 = .ok (.getfield 45, 3) := by decide +kernel
theorem dX7_mayBegin_93 : decode cX7_mayBegin 93 = .ok (.getfield 49, 3) := by decide +kernel
theorem dX7_mayBegin_96 : decode cX7_mayBegin 96 = .ok (.iconst 5, 1) := by decide +kernel
theorem dX7_mayBegin_97 : decode cX7_mayBegin 97 = .ok (.if_icmp .ge 29, 3) := by decide +kernel
theorem dX7_mayBegin_100 : decode cX7_mayBegin 100 = .ok (.iload_n 3, 1) := by decide +kernel
theorem dX7_mayBegin_101 : decode cX7_mayBegin 101 = .ok (.ifCond .eq 11, 3) := by decide +kernel
theorem dX7_mayBegin_104 : decode cX7_mayBegin 104 = .ok (.aload_n 1, 1) := by decide +kernel
theorem dX7_mayBegin_105 : decode cX7_mayBegin 105 = .ok (.getfield 77, 3) := by decide +kernel
theorem dX7_mayBegin_108 : decode cX7_mayBegin 108 = .ok (.iconst 4, 1) := by decide +kernel
theorem dX7_mayBegin_109 : decode cX7_mayBegin 109 = .ok (.if_icmp .ge 17, 3) := by decide +kernel
theorem dX7_mayBegin_112 : decode cX7_mayBegin 112 = .ok (.iload 4, 2) := by decide +kernel
theorem dX7_mayBegin_114 : decode cX7_mayBegin 114 = .ok (.ifCond .eq 16, 3) := by decide +kernel
theorem dX7_mayBegin_117 : decode cX7_mayBegin 117 = .ok (.aload_n 1, 1) := by decide +kernel
theorem dX7_mayBegin_118 : decode cX7_mayBegin 118 = .ok (.getfield 80, 3) := by decide +kernel
theorem dX7_mayBegin_121 : decode cX7_mayBegin 121 = .ok (.bipush 6, 2) := by decide +kernel
theorem dX7_mayBegin_123 : decode cX7_mayBegin 123 = .ok (.if_icmp .lt 7, 3) := by decide +kernel
theorem dX7_mayBegin_126 : decode cX7_mayBegin 126 = .ok (.iconst 1, 1) := by decide +kernel
theorem dX7_mayBegin_127 : decode cX7_mayBegin 127 = .ok (.goto 4, 3) := by decide +kernel
theorem dX7_mayBegin_130 : decode cX7_mayBegin 130 = .ok (.iconst 0, 1) := by decide +kernel
theorem dX7_mayBegin_131 : decode cX7_mayBegin 131 = .ok (.istore 5, 2) := by decide +kernel
theorem dX7_mayBegin_133 : decode cX7_mayBegin 133 = .ok (.iload 5, 2) := by decide +kernel
theorem dX7_mayBegin_135 : decode cX7_mayBegin 135 = .ok (.ifCond .eq 11, 3) := by decide +kernel
theorem dX7_mayBegin_138 : decode cX7_mayBegin 138 = .ok (.aload_n 0, 1) := by decide +kernel
theorem dX7_mayBegin_139 : decode cX7_mayBegin 139 = .ok (.iconst 5, 1) := by decide +kernel
theorem dX7_mayBegin_140 : decode cX7_mayBegin 140 = .ok (.invokevirtual 54, 3) := by decide +kernel
theorem dX7_mayBegin_143 : decode cX7_mayBegin 143 = .ok (.ifCond .eq 7, 3) := by decide +kernel
theorem dX7_mayBegin_146 : decode cX7_mayBegin 146 = .ok (.iconst 1, 1) := by decide +kernel
theorem dX7_mayBegin_147 : decode cX7_mayBegin 147 = .ok (.goto 4, 3) := by decide +kernel
theorem dX7_mayBegin_150 : decode cX7_mayBegin 150 = .ok (.iconst 0, 1) := by decide +kernel
theorem dX7_mayBegin_151 : decode cX7_mayBegin 151 = .ok (.ireturn, 1) := by decide +kernel
set_option maxRecDepth 20000 in
theorem ggX7_readsLine_X7_isWord : GoodIn wsX7_readsLine wsX7_isWord := goodIn_r _ [5, 6, 7, 8, 9, 4, 10, 11, 12, 13, 14, 15, 16, 17, 18, 19, 20, 21, 22, 23, 24, 25, 26, 27, 28, 29, 30, 31, 32, 33, 34, 35, 36, 37, 38, 39, 40, 41, 42, 43, 44, 45, 46, 47, 48, 49, 50, 51, 52, 53, 54, 55, 56, 57, 58, 59, 60, 187, 188, 189, 190, 191, 192, 193, 194, 195, 196] (by decide +kernel) (by decide +kernel)
set_option maxRecDepth 20000 in
theorem gX7_readsLine_X7_isWord : GoodIn wsX7_readsLine (wsV RX7 63 RX7 yX7_isWord wsX7_isWord) := goodIn_app (goodIn_of _ (by decide +kernel)) ggX7_readsLine_X7_isWord
set_option maxRecDepth 20000 in
theorem ggX7_readsLine_X7_readsHead : GoodIn wsX7_readsLine wsX7_readsHead := goodIn_r _ [64, 65, 66, 67, 68, 69, 4, 70, 71, 72, 73, 74, 7, 6, 75, 76, 77, 78, 79, 80, 81, 82, 83, 84, 85, 86, 87, 88, 11, 89, 90, 91, 92, 93, 94, 95, 96, 97, 98, 99, 1, 2, 3, 5, 8, 9, 10, 12, 13, 14, 15, 16, 17, 18, 19, 20, 21, 22, 23, 24, 25, 26, 27, 28, 29, 30, 31, 32, 33, 34, 35, 36, 37, 38, 39, 40, 41, 42, 43, 44, 45, 46, 47, 48, 49, 50, 51, 52, 53, 54, 55, 56, 57, 58, 59, 60, 100, 101, 102, 103, 104, 105, 106, 107, 108, 109, 110, 111, 112, 187, 188, 189, 190, 191, 192, 193, 194, 195, 196, 197, 198, 199, 200, 201, 202, 203, 204, 205, 206, 207, 208, 209, 210, 211, 212] (by decide +kernel) (by decide +kernel)
set_option maxRecDepth 20000 in
theorem gX7_readsLine_X7_readsHead : GoodIn wsX7_readsLine (wsV RX7 83 RX7 yX7_readsHead wsX7_readsHead) := goodIn_app (goodIn_of _ (by decide +kernel)) ggX7_readsLine_X7_readsHead
set_option maxRecDepth 20000 in
theorem ggX7_readsLine_X7_readsStack : GoodIn wsX7_readsLine wsX7_readsStack := goodIn_r _ [116, 7, 6, 75, 67, 68, 69, 4, 70, 71, 72, 73, 74, 66, 76, 77, 78, 79, 80, 81, 82, 83, 84, 85, 86, 87, 88, 11, 89, 90, 91, 92, 93, 94, 95, 117, 118, 119, 120, 1, 2, 3, 5, 8, 9, 10, 12, 13, 14, 15, 16, 17, 18, 19, 20, 21, 22, 23, 24, 25, 26, 27, 28, 29, 30, 31, 32, 33, 34, 35, 36, 37, 38, 39, 40, 41, 42, 43, 44, 45, 46, 47, 48, 49, 50, 51, 52, 53, 54, 55, 56, 57, 58, 59, 60, 100, 101, 102, 103, 104, 121, 122, 123, 124, 125, 126, 127, 128, 129, 130, 131, 132, 133, 134, 135, 136, 137, 138, 139, 140, 141, 142, 143, 144, 145, 187, 188, 189, 190, 191, 192, 193, 194, 195, 196, 211, 212, 197, 198, 199, 200, 201, 202, 203, 204, 205, 206, 207, 208, 209, 210, 213, 214, 215] (by decide +kernel) (by decide +kernel)
set_option maxRecDepth 20000 in
theorem gX7_readsLine_X7_readsStack : GoodIn wsX7_readsLine (wsV RX7 86 RX7 yX7_readsStack wsX7_readsStack) := goodIn_app (goodIn_of _ (by decide +kernel)) ggX7_readsLine_X7_readsStack
set_option maxRecDepth 20000 in
theorem ggX7_readsLine_X7_readsUnsure : GoodIn wsX7_readsLine wsX7_readsUnsure := goodIn_r _ [149, 6, 66, 67, 68, 69, 4, 70, 71, 72, 73, 74, 7, 75, 76, 77, 78, 79, 80, 81, 82, 83, 84, 85, 86, 87, 88, 11, 89, 90, 91, 92, 93, 94, 95, 150, 151, 152, 153, 117, 118, 119, 120, 1, 2, 3, 5, 8, 9, 10, 12, 13, 14, 15, 16, 17, 18, 19, 20, 21, 22, 23, 24, 25, 26, 27, 28, 29, 30, 31, 32, 33, 34, 35, 36, 37, 38, 39, 40, 41, 42, 43, 44, 45, 46, 47, 48, 49, 50, 51, 52, 53, 54, 55, 56, 57, 58, 59, 60, 100, 101, 102, 103, 104, 121, 122, 123, 124, 125, 126, 127, 154, 155, 156, 157, 158, 159, 160, 161, 144, 162, 163, 164, 165, 139, 166, 142, 109, 110, 111, 112, 167, 168, 169, 170, 143, 145, 187, 188, 189, 190, 191, 192, 193, 194, 195, 196, 197, 198, 199, 200, 201, 202, 203, 204, 205, 206, 207, 208, 209, 210, 211, 212, 213, 214, 215] (by decide +kernel) (by decide +kernel)
set_option maxRecDepth 20000 in
theorem gX7_readsLine_X7_readsUnsure : GoodIn wsX7_readsLine (wsV RX7 89 RX7 yX7_readsUnsure wsX7_readsUnsure) := goodIn_app (goodIn_of _ (by decide +kernel)) ggX7_readsLine_X7_readsUnsure
set_option maxRecDepth 20000 in
theorem ggX7_readsLine_X7_readsAgreed : GoodIn wsX7_readsLine wsX7_readsAgreed := goodIn_r _ [174, 6, 66, 67, 68, 69, 4, 70, 71, 72, 73, 74, 7, 75, 76, 77, 78, 79, 80, 81, 82, 83, 84, 85, 86, 87, 88, 11, 89, 90, 91, 92, 93, 94, 95, 150, 151, 152, 153, 117, 118, 119, 120, 1, 2, 3, 5, 8, 9, 10, 12, 13, 14, 15, 16, 17, 18, 19, 20, 21, 22, 23, 24, 25, 26, 27, 28, 29, 30, 31, 32, 33, 34, 35, 36, 37, 38, 39, 40, 41, 42, 43, 44, 45, 46, 47, 48, 49, 50, 51, 52, 53, 54, 55, 56, 57, 58, 59, 60, 100, 101, 102, 103, 104, 121, 122, 123, 124, 125, 126, 127, 175, 176, 177, 178, 179, 180, 181, 161, 144, 162, 109, 110, 111, 112, 182, 183, 184, 185, 186, 143, 145, 187, 188, 189, 190, 191, 192, 193, 194, 195, 196, 211, 212, 197, 198, 199, 200, 201, 202, 203, 204, 205, 206, 207, 208, 209, 210, 213, 214, 215] (by decide +kernel) (by decide +kernel)
set_option maxRecDepth 20000 in
theorem gX7_readsLine_X7_readsAgreed : GoodIn wsX7_readsLine (wsV RX7 92 RX7 yX7_readsAgreed wsX7_readsAgreed) := goodIn_app (goodIn_of _ (by decide +kernel)) ggX7_readsLine_X7_readsAgreed
theorem dX7_readsLine_0 : decode cX7_readsLine 0 = .ok (.aload_n 0, 1) := by decide +kernel
theorem dX7_readsLine_1 : decode cX7_readsLine 1 = .ok (.ldc 61, 2) := by decide +kernel
theorem dX7_readsLine_3 : decode cX7_readsLine 3 = .ok (.invokevirtual 63, 3) := by decide +kernel
theorem dX7_readsLine_6 : decode cX7_readsLine 6 = .ok (.ifCond .eq 9, 3) := by decide +kernel
theorem dX7_readsLine_9 : decode cX7_readsLine 9 = .ok (.aload_n 0, 1) := by decide +kernel
theorem dX7_readsLine_10 : decode cX7_readsLine 10 = .ok (.aload_n 1, 1) := by decide +kernel
theorem dX7_readsLine_11 : decode cX7_readsLine 11 = .ok (.invokevirtual 83, 3) := by decide +kernel
theorem dX7_readsLine_14 : decode cX7_readsLine 14 = .ok (.ireturn, 1) := by decide +kernel
theorem dX7_readsLine_15 : decode cX7_readsLine 15 = .ok (.aload_n 0, 1) := by decide +kernel
theorem dX7_readsLine_16 : decode cX7_readsLine 16 = .ok (.ldc 71, 2) := by decide +kernel
theorem dX7_readsLine_18 : decode cX7_readsLine 18 = .ok (.invokevirtual 63, 3) := by decide +kernel
theorem dX7_readsLine_21 : decode cX7_readsLine 21 = .ok (.ifCond .eq 9, 3) := by decide +kernel
theorem dX7_readsLine_24 : decode cX7_readsLine 24 = .ok (.aload_n 0, 1) := by decide +kernel
theorem dX7_readsLine_25 : decode cX7_readsLine 25 = .ok (.aload_n 1, 1) := by decide +kernel
theorem dX7_readsLine_26 : decode cX7_readsLine 26 = .ok (.invokevirtual 86, 3) := by decide +kernel
theorem dX7_readsLine_29 : decode cX7_readsLine 29 = .ok (.ireturn, 1) := by decide +kernel
theorem dX7_readsLine_30 : decode cX7_readsLine 30 = .ok (.aload_n 0, 1) := by decide +kernel
theorem dX7_readsLine_31 : decode cX7_readsLine 31 = .ok (.ldc 73, 2) := by decide +kernel
theorem dX7_readsLine_33 : decode cX7_readsLine 33 = .ok (.invokevirtual 63, 3) := by decide +kernel
theorem dX7_readsLine_36 : decode cX7_readsLine 36 = .ok (.ifCond .eq 11, 3) := by decide +kernel
theorem dX7_readsLine_39 : decode cX7_readsLine 39 = .ok (.aload_n 0, 1) := by decide +kernel
theorem dX7_readsLine_40 : decode cX7_readsLine 40 = .ok (.aload_n 1, 1) := by decide +kernel
theorem dX7_readsLine_41 : decode cX7_readsLine 41 = .ok (.invokevirtual 89, 3) := by decide +kernel
theorem dX7_readsLine_44 : decode cX7_readsLine 44 = .ok (.goto 8, 3) := by decide +kernel
theorem dX7_readsLine_47 : decode cX7_readsLine 47 = .ok (.aload_n 0, 1) := by decide +kernel
theorem dX7_readsLine_48 : decode cX7_readsLine 48 = .ok (.aload_n 1, 1) := by decide +kernel
theorem dX7_readsLine_49 : decode cX7_readsLine 49 = .ok (.invokevirtual 92, 3) := by decide +kernel
theorem dX7_readsLine_52 : decode cX7_readsLine 52 = .ok (.ireturn, 1) := by decide +kernel
set_option maxRecDepth 20000 in
theorem ggX7_readsHead_X7_advance : GoodIn wsX7_readsHead wsX7_advance := goodIn_r _ [7, 8, 9, 10, 11, 12, 2, 13, 14, 15, 16, 17, 18, 19, 20, 21, 22, 6, 23, 24, 25, 26, 27, 28, 29, 30, 31, 32, 33, 34, 35, 109, 110, 111, 112, 113, 114, 115, 116, 117, 118, 133, 134] (by decide +kernel) (by decide +kernel)
set_option maxRecDepth 20000 in
theorem gX7_readsHead_X7_advance : GoodIn wsX7_readsHead (wsV RX7 30 RX7 yX7_advance wsX7_advance) := goodIn_app (goodIn_of _ (by decide +kernel)) ggX7_readsHead_X7_advance
set_option maxRecDepth 20000 in
theorem ggX7_readsHead_X7_takesWord : GoodIn wsX7_readsHead wsX7_takesWord := goodIn_r _ [39, 40, 41, 42, 6, 43, 13, 12, 44, 45, 46, 28, 47, 48, 49, 50, 51, 52, 53, 54, 55, 56, 57, 58, 59, 60, 61, 62, 63, 64, 65, 66, 67, 68, 69, 70, 71, 72, 73, 74, 75, 76, 77, 78, 79, 80, 81, 82, 83, 84, 85, 86, 87, 88, 89, 90, 91, 92, 93, 94, 95, 96, 97, 98, 99, 100, 3, 4, 5, 7, 8, 9, 10, 11, 2, 14, 15, 16, 17, 18, 19, 20, 21, 22, 23, 24, 25, 26, 27, 29, 30, 31, 32, 33, 34, 35, 109, 110, 111, 112, 113, 114, 115, 116, 117, 118, 133, 134] (by decide +kernel) (by decide +kernel)
set_option maxRecDepth 20000 in
theorem gX7_readsHead_X7_takesWord : GoodIn wsX7_readsHead (wsV RX7 97 RX7 yX7_takesWord wsX7_takesWord) := goodIn_app (goodIn_of _ (by decide +kernel)) ggX7_readsHead_X7_takesWord
set_option maxRecDepth 20000 in
theorem ggX7_readsHead_X7_takesNumber : GoodIn wsX7_readsHead wsX7_takesNumber := goodIn_r _ [104, 13, 2, 1, 3, 4, 5, 6, 7, 8, 9, 10, 11, 12, 14, 15, 16, 17, 18, 19, 20, 21, 22, 23, 24, 25, 26, 27, 28, 29, 30, 31, 32, 33, 34, 35, 105, 106, 107, 108, 96, 97, 98, 99, 100, 109, 110, 111, 112, 113, 114, 115, 116, 117, 118, 133, 134] (by decide +kernel) (by decide +kernel)
set_option maxRecDepth 20000 in
theorem gX7_readsHead_X7_takesNumber : GoodIn wsX7_readsHead (wsV RX7 100 RX7 yX7_takesNumber wsX7_takesNumber) := goodIn_app (goodIn_of _ (by decide +kernel)) ggX7_readsHead_X7_takesNumber
set_option maxRecDepth 20000 in
theorem ggX7_readsHead_X7_isWholeWithin : GoodIn wsX7_readsHead wsX7_isWholeWithin := goodIn_r _ [108, 13, 2, 96, 97, 98, 6, 99, 100, 109, 110, 111, 112, 113, 114, 115, 116, 117, 118] (by decide +kernel) (by decide +kernel)
set_option maxRecDepth 20000 in
theorem gX7_readsHead_X7_isWholeWithin : GoodIn wsX7_readsHead (wsV RX7 119 RX7 yX7_isWholeWithin wsX7_isWholeWithin) := goodIn_app (goodIn_of _ (by decide +kernel)) ggX7_readsHead_X7_isWholeWithin
theorem dX7_readsHead_0 : decode cX7_readsHead 0 = .ok (.aload_n 0, 1) := by decide +kernel
theorem dX7_readsHead_1 : decode cX7_readsHead 1 = .ok (.invokevirtual 30, 3) := by decide +kernel
theorem dX7_readsHead_4 : decode cX7_readsHead 4 = .ok (.aload_n 0, 1) := by decide +kernel
theorem dX7_readsHead_5 : decode cX7_readsHead 5 = .ok (.ldc 95, 2) := by decide +kernel
theorem dX7_readsHead_7 : decode cX7_readsHead 7 = .ok (.invokevirtual 97, 3) := by decide +kernel
theorem dX7_readsHead_10 : decode cX7_readsHead 10 = .ok (.ifCond .eq 10, 3) := by decide +kernel
theorem dX7_readsHead_13 : decode cX7_readsHead 13 = .ok (.aload_n 0, 1) := by decide +kernel
theorem dX7_readsHead_14 : decode cX7_readsHead 14 = .ok (.invokevirtual 100, 3) := by decide +kernel
theorem dX7_readsHead_17 : decode cX7_readsHead 17 = .ok (.ifCond .ne 5, 3) := by decide +kernel
theorem dX7_readsHead_20 : decode cX7_readsHead 20 = .ok (.iconst 0, 1) := by decide +kernel
theorem dX7_readsHead_21 : decode cX7_readsHead 21 = .ok (.ireturn, 1) := by decide +kernel
theorem dX7_readsHead_22 : decode cX7_readsHead 22 = .ok (.aload_n 1, 1) := by decide +kernel
theorem dX7_readsHead_23 : decode cX7_readsHead 23 = .ok (.aload_n 0, 1) := by decide +kernel
theorem dX7_readsHead_24 : decode cX7_readsHead 24 = .ok (.getfield 104, 3) := by decide +kernel
theorem dX7_readsHead_27 : decode cX7_readsHead 27 = .ok (.putfield 107, 3) := by decide +kernel
theorem dX7_readsHead_30 : decode cX7_readsHead 30 = .ok (.aload_n 0, 1) := by decide +kernel
theorem dX7_readsHead_31 : decode cX7_readsHead 31 = .ok (.ldc 109, 2) := by decide +kernel
theorem dX7_readsHead_33 : decode cX7_readsHead 33 = .ok (.invokevirtual 97, 3) := by decide +kernel
theorem dX7_readsHead_36 : decode cX7_readsHead 36 = .ok (.ifCond .eq 10, 3) := by decide +kernel
theorem dX7_readsHead_39 : decode cX7_readsHead 39 = .ok (.aload_n 0, 1) := by decide +kernel
theorem dX7_readsHead_40 : decode cX7_readsHead 40 = .ok (.invokevirtual 100, 3) := by decide +kernel
theorem dX7_readsHead_43 : decode cX7_readsHead 43 = .ok (.ifCond .ne 5, 3) := by decide +kernel
theorem dX7_readsHead_46 : decode cX7_readsHead 46 = .ok (.iconst 0, 1) := by decide +kernel
theorem dX7_readsHead_47 : decode cX7_readsHead 47 = .ok (.ireturn, 1) := by decide +kernel
theorem dX7_readsHead_48 : decode cX7_readsHead 48 = .ok (.aload_n 1, 1) := by decide +kernel
theorem dX7_readsHead_49 : decode cX7_readsHead 49 = .ok (.aload_n 0, 1) := by decide +kernel
theorem dX7_readsHead_50 : decode cX7_readsHead 50 = .ok (.getfield 104, 3) := by decide +kernel
theorem dX7_readsHead_53 : decode cX7_readsHead 53 = .ok (.putfield 111, 3) := by decide +kernel
theorem dX7_readsHead_56 : decode cX7_readsHead 56 = .ok (.aload_n 0, 1) := by decide +kernel
theorem dX7_readsHead_57 : decode cX7_readsHead 57 = .ok (.ldc 113, 2) := by decide +kernel
theorem dX7_readsHead_59 : decode cX7_readsHead 59 = .ok (.invokevirtual 97, 3) := by decide +kernel
