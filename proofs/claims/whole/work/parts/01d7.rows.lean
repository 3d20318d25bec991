set_option maxRecDepth 20000 in
theorem ggX13_cut_X13_good : GoodIn wsX13_cut wsX13_good := goodIn_r _ [36, 12, 13, 37, 38, 39, 40, 41, 42, 43, 44, 45, 46, 47, 48, 49, 50, 51, 52, 53, 54, 55, 56, 57, 58, 59, 60, 61, 62, 63, 64, 65, 66, 67, 68, 69, 70, 71, 72, 73, 74] (by decide +kernel) (by decide +kernel)
set_option maxRecDepth 20000 in
theorem gX13_cut_X13_good : GoodIn wsX13_cut (wsV RX13 59 RX13 yX13_good wsX13_good) := goodIn_app (goodIn_of _ (by decide +kernel)) ggX13_cut_X13_good
theorem dX13_cut_0 : decode cX13_cut 0 = .ok (.aload_n 0, 1) := by decide +kernel
theorem dX13_cut_1 : decode cX13_cut 1 = .ok (.iconst 0, 1) := by decide +kernel
theorem dX13_cut_2 : decode cX13_cut 2 = .ok (.putfield 49, 3) := by decide +kernel
theorem dX13_cut_5 : decode cX13_cut 5 = .ok (.aload_n 0, 1) := by decide +kernel
theorem dX13_cut_6 : decode cX13_cut 6 = .ok (.iload_n 1, 1) := by decide +kernel
theorem dX13_cut_7 : decode cX13_cut 7 = .ok (.invokevirtual 307, 3) := by decide +kernel
theorem dX13_cut_10 : decode cX13_cut 10 = .ok (.ifCond .ne 9, 3) := by decide +kernel
theorem dX13_cut_13 : decode cX13_cut 13 = .ok (.aload_n 0, 1) := by decide +kernel
theorem dX13_cut_14 : decode cX13_cut 14 = .ok (.iconst 1, 1) := by decide +kernel
theorem dX13_cut_15 : decode cX13_cut 15 = .ok (.invokevirtual 55, 3) := by decide +kernel
theorem dX13_cut_18 : decode cX13_cut 18 = .ok (.ireturn, 1) := by decide +kernel
theorem dX13_cut_19 : decode cX13_cut 19 = .ok (.aload_n 0, 1) := by decide +kernel
theorem dX13_cut_20 : decode cX13_cut 20 = .ok (.iload_n 1, 1) := by decide +kernel
theorem dX13_cut_21 : decode cX13_cut 21 = .ok (.invokevirtual 310, 3) := by decide +kernel
theorem dX13_cut_24 : decode cX13_cut 24 = .ok (.iconst 2, 1) := by decide +kernel
theorem dX13_cut_25 : decode cX13_cut 25 = .ok (.if_icmp .ne 9, 3) := by decide +kernel
theorem dX13_cut_28 : decode cX13_cut 28 = .ok (.aload_n 0, 1) := by decide +kernel
theorem dX13_cut_29 : decode cX13_cut 29 = .ok (.iconst 5, 1) := by decide +kernel
theorem dX13_cut_30 : decode cX13_cut 30 = .ok (.invokevirtual 55, 3) := by decide +kernel
theorem dX13_cut_33 : decode cX13_cut 33 = .ok (.ireturn, 1) := by decide +kernel
theorem dX13_cut_34 : decode cX13_cut 34 = .ok (.aload_n 0, 1) := by decide +kernel
theorem dX13_cut_35 : decode cX13_cut 35 = .ok (.iload_n 1, 1) := by decide +kernel
theorem dX13_cut_36 : decode cX13_cut 36 = .ok (.aload_n 0, 1) := by decide +kernel
theorem dX13_cut_37 : decode cX13_cut 37 = .ok (.iload_n 1, 1) := by decide +kernel
theorem dX13_cut_38 : decode cX13_cut 38 = .ok (.invokevirtual 310, 3) := by decide +kernel
theorem dX13_cut_41 : decode cX13_cut 41 = .ok (.iconst 1, 1) := by decide +kernel
theorem dX13_cut_42 : decode cX13_cut 42 = .ok (.isub, 1) := by decide +kernel
theorem dX13_cut_43 : decode cX13_cut 43 = .ok (.aload_n 0, 1) := by decide +kernel
theorem dX13_cut_44 : decode cX13_cut 44 = .ok (.iload_n 1, 1) := by decide +kernel
theorem dX13_cut_45 : decode cX13_cut 45 = .ok (.invokevirtual 312, 3) := by decide +kernel
theorem dX13_cut_48 : decode cX13_cut 48 = .ok (.iconst 2, 1) := by decide +kernel
theorem dX13_cut_49 : decode cX13_cut 49 = .ok (.idiv, 1) := by decide +kernel
theorem dX13_cut_50 : decode cX13_cut 50 = .ok (.invokevirtual 445, 3) := by decide +kernel
theorem dX13_cut_53 : decode cX13_cut 53 = .ok (.pop, 1) := by decide +kernel
theorem dX13_cut_54 : decode cX13_cut 54 = .ok (.aload_n 0, 1) := by decide +kernel
theorem dX13_cut_55 : decode cX13_cut 55 = .ok (.aload_n 0, 1) := by decide +kernel
theorem dX13_cut_56 : decode cX13_cut 56 = .ok (.iload_n 1, 1) := by decide +kernel
theorem dX13_cut_57 : decode cX13_cut 57 = .ok (.invokevirtual 310, 3) := by decide +kernel
theorem dX13_cut_60 : decode cX13_cut 60 = .ok (.invokevirtual 59, 3) := by decide +kernel
theorem dX13_cut_63 : decode cX13_cut 63 = .ok (.ireturn, 1) := by decide +kernel
set_option maxRecDepth 20000 in
theorem ggX13_undo_X13_denied : GoodIn wsX13_undo wsX13_denied := goodIn_r _ [10, 11, 12, 13, 9, 14, 15, 16, 25, 26, 27, 28, 29, 30, 31, 32, 33, 34, 35, 36, 37, 38, 39, 40, 41, 42, 43, 44, 45, 46, 47, 48, 49, 50, 51, 52, 53, 54, 55, 56, 57, 58, 59, 60, 61, 62] (by decide +kernel) (by decide +kernel)
set_option maxRecDepth 20000 in
theorem gX13_undo_X13_denied : GoodIn wsX13_undo (wsV RX13 448 RX13 yX13_denied wsX13_denied) := goodIn_app (goodIn_of _ (by decide +kernel)) ggX13_undo_X13_denied
set_option maxRecDepth 20000 in
theorem ggX13_undo_X13_granted : GoodIn wsX13_undo wsX13_granted := goodIn_r _ [20, 21, 22, 23, 9, 24, 15, 16, 25, 26, 27, 28, 29, 30, 31, 32, 33, 34, 35, 36, 37, 38, 39, 40, 41, 42, 43, 44, 45, 46, 47, 48, 49, 50, 51, 52, 53, 54, 55, 56, 57, 58, 59, 60, 61, 62] (by decide +kernel) (by decide +kernel)
set_option maxRecDepth 20000 in
theorem gX13_undo_X13_granted : GoodIn wsX13_undo (wsV RX13 451 RX13 yX13_granted wsX13_granted) := goodIn_app (goodIn_of _ (by decide +kernel)) ggX13_undo_X13_granted
theorem dX13_undo_0 : decode cX13_undo 0 = .ok (.aload_n 0, 1) := by decide +kernel
theorem dX13_undo_1 : decode cX13_undo 1 = .ok (.iconst 0, 1) := by decide +kernel
theorem dX13_undo_2 : decode cX13_undo 2 = .ok (.putfield 49, 3) := by decide +kernel
theorem dX13_undo_5 : decode cX13_undo 5 = .ok (.aload_n 0, 1) := by decide +kernel
theorem dX13_undo_6 : decode cX13_undo 6 = .ok (.getfield 271, 3) := by decide +kernel
theorem dX13_undo_9 : decode cX13_undo 9 = .ok (.ifnull 10, 3) := by decide +kernel
theorem dX13_undo_12 : decode cX13_undo 12 = .ok (.aload_n 0, 1) := by decide +kernel
theorem dX13_undo_13 : decode cX13_undo 13 = .ok (.getfield 273, 3) := by decide +kernel
theorem dX13_undo_16 : decode cX13_undo 16 = .ok (.ifCond .ne 10, 3) := by decide +kernel
theorem dX13_undo_19 : decode cX13_undo 19 = .ok (.aload_n 0, 1) := by decide +kernel
theorem dX13_undo_20 : decode cX13_undo 20 = .ok (.bipush 6, 2) := by decide +kernel
theorem dX13_undo_22 : decode cX13_undo 22 = .ok (.invokevirtual 448, 3) := by decide +kernel
theorem dX13_undo_25 : decode cX13_undo 25 = .ok (.ireturn, 1) := by decide +kernel
theorem dX13_undo_26 : decode cX13_undo 26 = .ok (.aload_n 0, 1) := by decide +kernel
theorem dX13_undo_27 : decode cX13_undo 27 = .ok (.dup, 1) := by decide +kernel
theorem dX13_undo_28 : decode cX13_undo 28 = .ok (.getfield 273, 3) := by decide +kernel
theorem dX13_undo_31 : decode cX13_undo 31 = .ok (.iconst 1, 1) := by decide +kernel
theorem dX13_undo_32 : decode cX13_undo 32 = .ok (.isub, 1) := by decide +kernel
theorem dX13_undo_33 : decode cX13_undo 33 = .ok (.putfield 273, 3) := by decide +kernel
theorem dX13_undo_36 : decode cX13_undo 36 = .ok (.iconst 0, 1) := by decide +kernel
theorem dX13_undo_37 : decode cX13_undo 37 = .ok (.istore_n 1, 1) := by decide +kernel
theorem dX13_undo_38 : decode cX13_undo 38 = .ok (.iload_n 1, 1) := by decide +kernel
theorem dX13_undo_39 : decode cX13_undo 39 = .ok (.bipush 10, 2) := by decide +kernel
theorem dX13_undo_41 : decode cX13_undo 41 = .ok (.if_icmp .ge 29, 3) := by decide +kernel
theorem dX13_undo_44 : decode cX13_undo 44 = .ok (.aload_n 0, 1) := by decide +kernel
theorem dX13_undo_45 : decode cX13_undo 45 = .ok (.getfield 17, 3) := by decide +kernel
theorem dX13_undo_48 : decode cX13_undo 48 = .ok (.iload_n 1, 1) := by decide +kernel
theorem dX13_undo_49 : decode cX13_undo 49 = .ok (.aload_n 0, 1) := by decide +kernel
theorem dX13_undo_50 : decode cX13_undo 50 = .ok (.getfield 21, 3) := by decide +kernel
theorem dX13_undo_53 : decode cX13_undo 53 = .ok (.bipush 10, 2) := by decide +kernel
theorem dX13_undo_55 : decode cX13_undo 55 = .ok (.aload_n 0, 1) := by decide +kernel
theorem dX13_undo_56 : decode cX13_undo 56 = .ok (.getfield 273, 3) := by decide +kernel
theorem dX13_undo_59 : decode cX13_undo 59 = .ok (.imul, 1) := by decide +kernel
theorem dX13_undo_60 : decode cX13_undo 60 = .ok (.iload_n 1, 1) := by decide +kernel
theorem dX13_undo_61 : decode cX13_undo 61 = .ok (.iadd, 1) := by decide +kernel
theorem dX13_undo_62 : decode cX13_undo 62 = .ok (.iaload, 1) := by decide +kernel
theorem dX13_undo_63 : decode cX13_undo 63 = .ok (.iastore, 1) := by decide +kernel
theorem dX13_undo_64 : decode cX13_undo 64 = .ok (.iinc 1 1, 3) := by decide +kernel
theorem dX13_undo_67 : decode cX13_undo 67 = .ok (.goto (-29), 3) := by decide +kernel
theorem dX13_undo_70 : decode cX13_undo 70 = .ok (.aload_n 0, 1) := by decide +kernel
theorem dX13_undo_71 : decode cX13_undo 71 = .ok (.invokevirtual 451, 3) := by decide +kernel
theorem dX13_undo_74 : decode cX13_undo 74 = .ok (.ireturn, 1) := by decide +kernel
set_option maxRecDepth 20000 in
theorem ggX13_image_X13_refused : GoodIn wsX13_image wsX13_refused := goodIn_r _ [10, 11, 12, 17, 18, 19, 20, 21, 22, 23, 24, 25, 26, 27, 28, 29, 30, 31, 32, 33, 34, 35, 36, 37, 38, 39, 40, 41, 42, 43, 44, 45, 46, 47, 48, 49, 50, 51, 52, 53, 54] (by decide +kernel) (by decide +kernel)
set_option maxRecDepth 20000 in
theorem gX13_image_X13_refused : GoodIn wsX13_image (wsV RX13 55 RX13 yX13_refused wsX13_refused) := goodIn_app (goodIn_of _ (by decide +kernel)) ggX13_image_X13_refused
set_option maxRecDepth 20000 in
theorem ggX13_image_X13_good : GoodIn wsX13_image wsX13_good := goodIn_r _ [16, 11, 12, 17, 18, 19, 20, 21, 22, 23, 24, 25, 26, 27, 28, 29, 30, 31, 32, 33, 34, 35, 36, 37, 38, 39, 40, 41, 42, 43, 44, 45, 46, 47, 48, 49, 50, 51, 52, 53, 54] (by decide +kernel) (by decide +kernel)
set_option maxRecDepth 20000 in
theorem gX13_image_X13_good : GoodIn wsX13_image (wsV RX13 59 RX13 yX13_good wsX13_good) := goodIn_app (goodIn_of _ (by decide +kernel)) ggX13_image_X13_good
theorem dX13_image_0 : decode cX13_image 0 = .ok (.aload_n 0, 1) := by decide +kernel
theorem dX13_image_1 : decode cX13_image 1 = .ok (.iconst 0, 1) := by decide +kernel
theorem dX13_image_2 : decode cX13_image 2 = .ok (.putfield 49, 3) := by decide +kernel
theorem dX13_image_5 : decode cX13_image 5 = .ok (.aload_n 0, 1) := by decide +kernel
theorem dX13_image_6 : decode cX13_image 6 = .ok (.getfield 271, 3) := by decide +kernel
theorem dX13_image_9 : decode cX13_image 9 = .ok (.ifnonnull 9, 3) := by decide +kernel
theorem dX13_image_12 : decode cX13_image 12 = .ok (.aload_n 0, 1) := by decide +kernel
theorem dX13_image_13 : decode cX13_image 13 = .ok (.iconst 1, 1) := by decide +kernel
theorem dX13_image_14 : decode cX13_image 14 = .ok (.invokevirtual 55, 3) := by decide +kernel
theorem dX13_image_17 : decode cX13_image 17 = .ok (.ireturn, 1) := by decide +kernel
theorem dX13_image_18 : decode cX13_image 18 = .ok (.aload_n 0, 1) := by decide +kernel
theorem dX13_image_19 : decode cX13_image 19 = .ok (.getfield 276, 3) := by decide +kernel
theorem dX13_image_22 : decode cX13_image 22 = .ok (.iconst 3, 1) := by decide +kernel
theorem dX13_image_23 : decode cX13_image 23 = .ok (.if_icmp .ne 9, 3) := by decide +kernel
theorem dX13_image_26 : decode cX13_image 26 = .ok (.aload_n 0, 1) := by decide +kernel
theorem dX13_image_27 : decode cX13_image 27 = .ok (.iconst 3, 1) := by decide +kernel
theorem dX13_image_28 : decode cX13_image 28 = .ok (.invokevirtual 55, 3) := by decide +kernel
theorem dX13_image_31 : decode cX13_image 31 = .ok (.ireturn, 1) := by decide +kernel
theorem dX13_image_32 : decode cX13_image 32 = .ok (.iconst 0, 1) := by decide +kernel
theorem dX13_image_33 : decode cX13_image 33 = .ok (.istore_n 1, 1) := by decide +kernel
theorem dX13_image_34 : decode cX13_image 34 = .ok (.iload_n 1, 1) := by decide +kernel
theorem dX13_image_35 : decode cX13_image 35 = .ok (.bipush 10, 2) := by decide +kernel
theorem dX13_image_37 : decode cX13_image 37 = .ok (.if_icmp .ge 29, 3) := by decide +kernel
theorem dX13_image_40 : decode cX13_image 40 = .ok (.aload_n 0, 1) := by decide +kernel
theorem dX13_image_41 : decode cX13_image 41 = .ok (.getfield 24, 3) := by decide +kernel
theorem dX13_image_44 : decode cX13_image 44 = .ok (.bipush 10, 2) := by decide +kernel
theorem dX13_image_46 : decode cX13_image 46 = .ok (.aload_n 0, 1) := by decide +kernel
theorem dX13_image_47 : decode cX13_image 47 = .ok (.getfield 276, 3) := by decide +kernel
theorem dX13_image_50 : decode cX13_image 50 = .ok (.imul, 1) := by decide +kernel
theorem dX13_image_51 : decode cX13_image 51 = .ok (.iload_n 1, 1) := by decide +kernel
theorem dX13_image_52 : decode cX13_image 52 = .ok (.iadd, 1) := by decide +kernel
theorem dX13_image_53 : decode cX13_image 53 = .ok (.aload_n 0, 1) := by decide +kernel
theorem dX13_image_54 : decode cX13_image 54 = .ok (.getfield 17, 3) := by decide +kernel
theorem dX13_image_57 : decode cX13_image 57 = .ok (.iload_n 1, 1) := by decide +kernel
theorem dX13_image_58 : decode cX13_image 58 = .ok (.iaload, 1) := by decide +kernel
theorem dX13_image_59 : decode cX13_image 59 = .ok (.iastore, 1) := by decide +kernel
theorem dX13_image_60 : decode cX13_image 60 = .ok (.iinc 1 1, 3) := by decide +kernel
theorem dX13_image_63 : decode cX13_image 63 = .ok (.goto (-29), 3) := by decide +kernel
theorem dX13_image_66 : decode cX13_image 66 = .ok (.aload_n 0, 1) := by decide +kernel
theorem dX13_image_67 : decode cX13_image 67 = .ok (.dup, 1) := by decide +kernel
theorem dX13_image_68 : decode cX13_image 68 = .ok (.getfield 276, 3) := by decide +kernel
theorem dX13_image_71 : decode cX13_image 71 = .ok (.iconst 1, 1) := by decide +kernel
theorem dX13_image_72 : decode cX13_image 72 = .ok (.iadd, 1) := by decide +kernel
theorem dX13_image_73 : decode cX13_image 73 = .ok (.putfield 276, 3) := by decide +kernel
theorem dX13_image_76 : decode cX13_image 76 = .ok (.aload_n 0, 1) := by decide +kernel
theorem dX13_image_77 : decode cX13_image 77 = .ok (.aload_n 0, 1) := by decide +kernel
theorem dX13_image_78 : decode cX13_image 78 = .ok (.getfield 276, 3) := by decide +kernel
theorem dX13_image_81 : decode cX13_image 81 = .ok (.iconst 1, 1) := by decide +kernel
theorem dX13_image_82 : decode cX13_image 82 = .ok (.isub, 1) := by decide +kernel
theorem dX13_image_83 : decode cX13_image 83 = .ok (.invokevirtual 59, 3) := by decide +kernel
theorem dX13_image_86 : decode cX13_image 86 = .ok (.ireturn, 1) := by decide +kernel
set_option maxRecDepth 20000 in
theorem ggX13_back_X13_denied : GoodIn wsX13_back wsX13_denied := goodIn_r _ [11, 12, 13, 14, 10, 15, 16, 17, 26, 27, 28, 29, 30, 31, 32, 33, 34, 35, 36, 37, 38, 39, 40, 41, 42, 43, 44, 45, 46, 47, 48, 49, 50, 51, 52, 53, 54, 55, 56, 57, 58, 59, 60, 61, 62, 63] (by decide +kernel) (by decide +kernel)
set_option maxRecDepth 20000 in
theorem gX13_back_X13_denied : GoodIn wsX13_back (wsV RX13 448 RX13 yX13_denied wsX13_denied) := goodIn_app (goodIn_of _ (by decide +kernel)) ggX13_back_X13_denied
set_option maxRecDepth 20000 in
theorem ggX13_back_X13_granted : GoodIn wsX13_back wsX13_granted := goodIn_r _ [21, 22, 23, 24, 10, 25, 16, 17, 26, 27, 28, 29, 30, 31, 32, 33, 34, 35, 36, 37, 38, 39, 40, 41, 42, 43, 44, 45, 46, 47, 48, 49, 50, 51, 52, 53, 54, 55, 56, 57, 58, 59, 60, 61, 62, 63] (by decide +kernel) (by decide +kernel)
set_option maxRecDepth 20000 in
theorem gX13_back_X13_granted : GoodIn wsX13_back (wsV RX13 451 RX13 yX13_granted wsX13_granted) := goodIn_app (goodIn_of _ (by decide +kernel)) ggX13_back_X13_granted
theorem dX13_back_0 : decode cX13_back 0 = .ok (.aload_n 0, 1) := by decide +kernel
theorem dX13_back_1 : decode cX13_back 1 = .ok (.iconst 0, 1) := by decide +kernel
theorem dX13_back_2 : decode cX13_back 2 = .ok (.putfield 49, 3) := by decide +kernel
theorem dX13_back_5 : decode cX13_back 5 = .ok (.aload_n 0, 1) := by decide +kernel
theorem dX13_back_6 : decode cX13_back 6 = .ok (.getfield 271, 3) := by decide +kernel
theorem dX13_back_9 : decode cX13_back 9 = .ok (.ifnull 15, 3) := by decide +kernel
theorem dX13_back_12 : decode cX13_back 12 = .ok (.iload_n 1, 1) := by decide +kernel
theorem dX13_back_13 : decode cX13_back 13 = .ok (.ifCond .lt 11, 3) := by decide +kernel
theorem dX13_back_16 : decode cX13_back 16 = .ok (.iload_n 1, 1) := by decide +kernel
theorem dX13_back_17 : decode cX13_back 17 = .ok (.aload_n 0, 1) := by decide +kernel
theorem dX13_back_18 : decode cX13_back 18 = .ok (.getfield 276, 3) := by decide +kernel
theorem dX13_back_21 : decode cX13_back 21 = .ok (.if_icmp .lt 9, 3) := by decide +kernel
theorem dX13_back_24 : decode cX13_back 24 = .ok (.aload_n 0, 1) := by decide +kernel
theorem dX13_back_25 : decode cX13_back 25 = .ok (.iconst 1, 1) := by decide +kernel
theorem dX13_back_26 : decode cX13_back 26 = .ok (.invokevirtual 448, 3) := by decide +kernel
theorem dX13_back_29 : decode cX13_back 29 = .ok (.ireturn, 1) := by decide +kernel
theorem dX13_back_30 : decode cX13_back 30 = .ok (.iconst 0, 1) := by decide +kernel
theorem dX13_back_31 : decode cX13_back 31 = .ok (.istore_n 2, 1) := by decide +kernel
theorem dX13_back_32 : decode cX13_back 32 = .ok (.iload_n 2, 1) := by decide +kernel
theorem dX13_back_33 : decode cX13_back 33 = .ok (.bipush 10, 2) := by decide +kernel
theorem dX13_back_35 : decode cX13_back 35 = .ok (.if_icmp .ge 26, 3) := by decide +kernel
theorem dX13_back_38 : decode cX13_back 38 = .ok (.aload_n 0, 1) := by decide +kernel
theorem dX13_back_39 : decode cX13_back 39 = .ok (.getfield 17, 3) := by decide +kernel
theorem dX13_back_42 : decode cX13_back 42 = .ok (.iload_n 2, 1) := by decide +kernel
theorem dX13_back_43 : decode cX13_back 43 = .ok (.aload_n 0, 1) := by decide +kernel
theorem dX13_back_44 : decode cX13_back 44 = .ok (.getfield 24, 3) := by decide +kernel
theorem dX13_back_47 : decode cX13_back 47 = .ok (.bipush 10, 2) := by decide +kernel
theorem dX13_back_49 : decode cX13_back 49 = .ok (.iload_n 1, 1) := by decide +kernel
theorem dX13_back_50 : decode cX13_back 50 = .ok (.imul, 1) := by decide +kernel
theorem dX13_back_51 : decode cX13_back 51 = .ok (.iload_n 2, 1) := by decide +kernel
theorem dX13_back_52 : decode cX13_back 52 = .ok (.iadd, 1) := by decide +kernel
theorem dX13_back_53 : decode cX13_back 53 = .ok (.iaload, 1) := by decide +kernel
theorem dX13_back_54 : decode cX13_back 54 = .ok (.iastore, 1) := by decide +kernel
theorem dX13_back_55 : decode cX13_back 55 = .ok (.iinc 2 1, 3) := by decide +kernel
theorem dX13_back_58 : decode cX13_back 58 = .ok (.goto (-26), 3) := by decide +kernel
theorem dX13_back_61 : decode cX13_back 61 = .ok (.aload_n 0, 1) := by decide +kernel
theorem dX13_back_62 : decode cX13_back 62 = .ok (.iconst 0, 1) := by decide +kernel
theorem dX13_back_63 : decode cX13_back 63 = .ok (.putfield 273, 3) := by decide +kernel
theorem dX13_back_66 : decode cX13_back 66 = .ok (.aload_n 0, 1) := by decide +kernel
theorem dX13_back_67 : decode cX13_back 67 = .ok (.invokevirtual 451, 3) := by decide +kernel
theorem dX13_back_70 : decode cX13_back 70 = .ok (.ireturn, 1) := by decide +kernel
set_option maxRecDepth 20000 in
theorem ggX13_led_X13_row : GoodIn wsX13_led wsX13_row := goodIn_r _ [7, 8, 22, 23, 24, 25, 26, 27, 28, 29, 30, 31, 32, 33, 34, 35, 36, 37, 38, 39, 40, 41, 42, 43, 44, 45, 46, 47, 48, 49, 50, 51, 52, 53, 54, 55, 56, 57, 58, 59] (by decide +kernel) (by decide +kernel)
set_option maxRecDepth 20000 in
theorem gX13_led_X13_row : GoodIn wsX13_led (wsV RX13 312 RX13 yX13_row wsX13_row) := goodIn_app (goodIn_of _ (by decide +kernel)) ggX13_led_X13_row
set_option maxRecDepth 20000 in
theorem ggX13_led_X13_steps : GoodIn wsX13_led wsX13_steps := goodIn_r _ [12, 8, 22, 23, 24, 25, 26, 27, 28, 29, 30, 31, 32, 33, 34, 35, 36, 37, 38, 39, 40, 41, 42, 43, 44, 45, 46, 47, 48, 49, 50, 51, 52, 53, 54, 55, 56, 57, 58, 59] (by decide +kernel) (by decide +kernel)
set_option maxRecDepth 20000 in
theorem gX13_led_X13_steps : GoodIn wsX13_led (wsV RX13 310 RX13 yX13_steps wsX13_steps) := goodIn_app (goodIn_of _ (by decide +kernel)) ggX13_led_X13_steps
set_option maxRecDepth 20000 in
theorem ggX13_led_X13_repeats : GoodIn wsX13_led wsX13_repeats := goodIn_r _ [15, 16, 17, 6, 18, 19, 20, 21] (by decide +kernel) (by decide +kernel)
set_option maxRecDepth 20000 in
theorem gX13_led_X13_repeats : GoodIn wsX13_led (va_wsS RX13 295 yX13_repeats wsX13_repeats) := goodIn_app (goodIn_of _ (by decide +kernel)) ggX13_led_X13_repeats
theorem dX13_led_0 : decode cX13_led 0 = .ok (.aload_n 0, 1) := by decide +kernel
theorem dX13_led_1 : decode cX13_led 1 = .ok (.iconst 0, 1) := by decide +kernel
theorem dX13_led_2 : decode cX13_led 2 = .ok (.putfield 49, 3) := by decide +kernel
theorem dX13_led_5 : decode cX13_led 5 = .ok (.iconst 0, 1) := by decide +kernel
theorem dX13_led_6 : decode cX13_led 6 = .ok (.istore_n 2, 1) := by decide +kernel
theorem dX13_led_7 : decode cX13_led 7 = .ok (.iconst 0, 1) := by decide +kernel
theorem dX13_led_8 : decode cX13_led 8 = .ok (.istore_n 3, 1) := by decide +kernel
theorem dX13_led_9 : decode cX13_led 9 = .ok (.aload_n 0, 1) := by decide +kernel
theorem dX13_led_10 : decode cX13_led 10 = .ok (.getfield 271, 3) := by decide +kernel
theorem dX13_led_13 : decode cX13_led 13 = .ok (.ifnull 54, 3) := by decide +kernel
theorem dX13_led_16 : decode cX13_led 16 = .ok (.iload_n 3, 1) := by decide +kernel
theorem dX13_led_17 : decode cX13_led 17 = .ok (.aload_n 0, 1) := by decide +kernel
theorem dX13_led_18 : decode cX13_led 18 = .ok (.getfield 271, 3) := by decide +kernel
theorem dX13_led_21 : decode cX13_led 21 = .ok (.getfield 187, 3) := by decide +kernel
theorem dX13_led_24 : decode cX13_led 24 = .ok (.if_icmp .ge 43, 3) := by decide +kernel
theorem dX13_led_27 : decode cX13_led 27 = .ok (.aload_n 0, 1) := by decide +kernel
theorem dX13_led_28 : decode cX13_led 28 = .ok (.iload_n 3, 1) := by decide +kernel
theorem dX13_led_29 : decode cX13_led 29 = .ok (.invokevirtual 312, 3) := by decide +kernel
theorem dX13_led_32 : decode cX13_led 32 = .ok (.aload_n 0, 1) := by decide +kernel
theorem dX13_led_33 : decode cX13_led 33 = .ok (.iload_n 3, 1) := by decide +kernel
theorem dX13_led_34 : decode cX13_led 34 = .ok (.invokevirtual 310, 3) := by decide +kernel
theorem dX13_led_37 : decode cX13_led 37 = .ok (.invokestatic 295, 3) := by decide +kernel
theorem dX13_led_40 : decode cX13_led 40 = .ok (.aload_n 0, 1) := by decide +kernel
theorem dX13_led_41 : decode cX13_led 41 = .ok (.iload_n 3, 1) := by decide +kernel
theorem dX13_led_42 : decode cX13_led 42 = .ok (.invokevirtual 310, 3) := by decide +kernel
theorem dX13_led_45 : decode cX13_led 45 = .ok (.if_icmp .ne 6, 3) := by decide +kernel
theorem dX13_led_48 : decode cX13_led 48 = .ok (.goto 13, 3) := by decide +kernel
theorem dX13_led_51 : decode cX13_led 51 = .ok (.iload_n 2, 1) := by decide +kernel
theorem dX13_led_52 : decode cX13_led 52 = .ok (.iload_n 1, 1) := by decide +kernel
theorem dX13_led_53 : decode cX13_led 53 = .ok (.if_icmp .ne 5, 3) := by decide +kernel
theorem dX13_led_56 : decode cX13_led 56 = .ok (.iload_n 3, 1) := by decide +kernel
theorem dX13_led_57 : decode cX13_led 57 = .ok (.ireturn, 1) := by decide +kernel
theorem dX13_led_58 : decode cX13_led 58 = .ok (.iinc 2 1, 3) := by decide +kernel
theorem dX13_led_61 : decode cX13_led 61 = .ok (.iinc 3 1, 3) := by decide +kernel
theorem dX13_led_64 : decode cX13_led 64 = .ok (.goto (-55), 3) := by decide +kernel
theorem dX13_led_67 : decode cX13_led 67 = .ok (.aload_n 0, 1) := by decide +kernel
theorem dX13_led_68 : decode cX13_led 68 = .ok (.iconst 1, 1) := by decide +kernel
theorem dX13_led_69 : decode cX13_led 69 = .ok (.putfield 49, 3) := by decide +kernel
theorem dX13_led_72 : decode cX13_led 72 = .ok (.iconst 0, 1) := by decide +kernel
theorem dX13_led_73 : decode cX13_led 73 = .ok (.ireturn, 1) := by decide +kernel
set_option maxRecDepth 20000 in
theorem ggX13_size_X13_in : GoodIn wsX13_size wsX13_in := goodIn_r _ [9] (by decide +kernel) (by decide +kernel)
set_option maxRecDepth 20000 in
theorem gX13_size_X13_in : GoodIn wsX13_size (va_wsS RX13 137 yX13_in wsX13_in) := goodIn_app (goodIn_of _ (by decide +kernel)) ggX13_size_X13_in
theorem dX13_size_0 : decode cX13_size 0 = .ok (.aload_n 0, 1) := by decide +kernel
theorem dX13_size_1 : decode cX13_size 1 = .ok (.iconst 0, 1) := by decide +kernel
theorem dX13_size_2 : decode cX13_size 2 = .ok (.putfield 49, 3) := by decide +kernel
theorem dX13_size_5 : decode cX13_size 5 = .ok (.iload_n 1, 1) := by decide +kernel
theorem dX13_size_6 : decode cX13_size 6 = .ok (.bipush 9, 2) := by decide +kernel
theorem dX13_size_8 : decode cX13_size 8 = .ok (.if_icmp .ne 8, 3) := by decide +kernel
theorem dX13_size_11 : decode cX13_size 11 = .ok (.aload_n 0, 1) := by decide +kernel
theorem dX13_size_12 : decode cX13_size 12 = .ok (.getfield 264, 3) := by decide +kernel
theorem dX13_size_15 : decode cX13_size 15 = .ok (.ireturn, 1) := by decide +kernel
theorem dX13_size_16 : decode cX13_size 16 = .ok (.iload_n 1, 1) := by decide +kernel
theorem dX13_size_17 : decode cX13_size 17 = .ok (.iconst 0, 1) := by decide +kernel
theorem dX13_size_18 : decode cX13_size 18 = .ok (.bipush 8, 2) := by decide +kernel
theorem dX13_size_20 : decode cX13_size 20 = .ok (.invokestatic 137, 3) := by decide +kernel
theorem dX13_size_23 : decode cX13_size 23 = .ok (.ifCond .ne 5, 3) := by decide +kernel
theorem dX13_size_26 : decode cX13_size 26 = .ok (.iconst (-1), 1) := by decide +kernel
theorem dX13_size_27 : decode cX13_size 27 = .ok (.ireturn, 1) := by decide +kernel
theorem dX13_size_28 : decode cX13_size 28 = .ok (.aload_n 0, 1) := by decide +kernel
theorem dX13_size_29 : decode cX13_size 29 = .ok (.getfield 271, 3) := by decide +kernel
theorem dX13_size_32 : decode cX13_size 32 = .ok (.ifnonnull 5, 3) := by decide +kernel
theorem dX13_size_35 : decode cX13_size 35 = .ok (.iconst 0, 1) := by decide +kernel
theorem dX13_size_36 : decode cX13_size 36 = .ok (.ireturn, 1) := by decide +kernel
theorem dX13_size_37 : decode cX13_size 37 = .ok (.iload_n 1, 1) := by decide +kernel
theorem dX13_size_38 : decode cX13_size 38 = .ok (.tableswitch 116 0 7 #[46, 57, 68, 79, 87, 95, 103, 111], 46) := by decide +kernel
theorem dX13_size_84 : decode cX13_size 84 = .ok (.aload_n 0, 1) := by decide +kernel
theorem dX13_size_85 : decode cX13_size 85 = .ok (.getfield 271, 3) := by decide +kernel
theorem dX13_size_88 : decode cX13_size 88 = .ok (.getfield 214, 3) := by decide +kernel
theorem dX13_size_91 : decode cX13_size 91 = .ok (.bipush 100, 2) := by decide +kernel
theorem dX13_size_93 : decode cX13_size 93 = .ok (.iadd, 1) := by decide +kernel
theorem dX13_size_94 : decode cX13_size 94 = .ok (.ireturn, 1) := by decide +kernel
theorem dX13_size_95 : decode cX13_size 95 = .ok (.aload_n 0, 1) := by decide +kernel
theorem dX13_size_96 : decode cX13_size 96 = .ok (.getfield 271, 3) := by decide +kernel
theorem dX13_size_99 : decode cX13_size 99 = .ok (.getfield 216, 3) := by decide +kernel
theorem dX13_size_102 : decode cX13_size 102 = .ok (.bipush 100, 2) := by decide +kernel
theorem dX13_size_104 : decode cX13_size 104 = .ok (.iadd, 1) := by decide +kernel
theorem dX13_size_105 : decode cX13_size 105 = .ok (.ireturn, 1) := by decide +kernel
theorem dX13_size_106 : decode cX13_size 106 = .ok (.aload_n 0, 1) := by decide +kernel
theorem dX13_size_107 : decode cX13_size 107 = .ok (.getfield 271, 3) := by decide +kernel
theorem dX13_size_110 : decode cX13_size 110 = .ok (.getfield 218, 3) := by decide +kernel
theorem dX13_size_113 : decode cX13_size 113 = .ok (.bipush 100, 2) := by decide +kernel
theorem dX13_size_115 : decode cX13_size 115 = .ok (.iadd, 1) := by decide +kernel
theorem dX13_size_116 : decode cX13_size 116 = .ok (.ireturn, 1) := by decide +kernel
theorem dX13_size_117 : decode cX13_size 117 = .ok (.aload_n 0, 1) := by decide +kernel
theorem dX13_size_118 : decode cX13_size 118 = .ok (.getfield 271, 3) := by decide +kernel
theorem dX13_size_121 : decode cX13_size 121 = .ok (.getfield 220, 3) := by decide +kernel
theorem dX13_size_124 : decode cX13_size 124 = .ok (.ireturn, 1) := by decide +kernel
theorem dX13_size_125 : decode cX13_size 125 = .ok (.aload_n 0, 1) := by decide +kernel
theorem dX13_size_126 : decode cX13_size 126 = .ok (.getfield 271, 3) := by decide +kernel
theorem dX13_size_129 : decode cX13_size 129 = .ok (.getfield 187, 3) := by decide +kernel
theorem dX13_size_132 : decode cX13_size 132 = .ok (.ireturn, 1) := by decide +kernel
theorem dX13_size_133 : decode cX13_size 133 = .ok (.aload_n 0, 1) := by decide +kernel
theorem dX13_size_134 : decode cX13_size 134 = .ok (.getfield 271, 3) := by decide +kernel
theorem dX13_size_137 : decode cX13_size 137 = .ok (.getfield 236, 3) := by decide +kernel
theorem dX13_size_140 : decode cX13_size 140 = .ok (.ireturn, 1) := by decide +kernel
theorem dX13_size_141 : decode cX13_size 141 = .ok (.aload_n 0, 1) := by decide +kernel
theorem dX13_size_142 : decode cX13_size 142 = .ok (.getfield 271, 3) := by decide +kernel
theorem dX13_size_145 : decode cX13_size 145 = .ok (.getfield 250, 3) := by decide +kernel
theorem dX13_size_148 : decode cX13_size 148 = .ok (.ireturn, 1) := by decide +kernel
theorem dX13_size_149 : decode cX13_size 149 = .ok (.aload_n 0, 1) := by decide +kernel
theorem dX13_size_150 : decode cX13_size 150 = .ok (.getfield 273, 3) := by decide +kernel
theorem dX13_size_153 : decode cX13_size 153 = .ok (.ireturn, 1) := by decide +kernel
theorem dX13_size_154 : decode cX13_size 154 = .ok (.aload_n 0, 1) := by decide +kernel
theorem dX13_size_155 : decode cX13_size 155 = .ok (.getfield 276, 3) := by decide +kernel
theorem dX13_size_158 : decode cX13_size 158 = .ok (.ireturn, 1) := by decide +kernel
theorem dX13_trouble_0 : decode cX13_trouble 0 = .ok (.aload_n 0, 1) := by decide +kernel
theorem dX13_trouble_1 : decode cX13_trouble 1 = .ok (.iconst 0, 1) := by decide +kernel
theorem dX13_trouble_2 : decode cX13_trouble 2 = .ok (.putfield 49, 3) := by decide +kernel
theorem dX13_trouble_5 : decode cX13_trouble 5 = .ok (.aload_n 0, 1) := by decide +kernel
theorem dX13_trouble_6 : decode cX13_trouble 6 = .ok (.getfield 52, 3) := by decide +kernel
theorem dX13_trouble_9 : decode cX13_trouble 9 = .ok (.ireturn, 1) := by decide +kernel
theorem dJ6_bitCount_0f7a4_0 : decode cJ6_bitCount_0f7a4 0 = .ok (.iload_n 0, 1) := by decide +kernel
theorem dJ6_bitCount_0f7a4_1 : decode cJ6_bitCount_0f7a4 1 = .ok (.iload_n 0, 1) := by decide +kernel
theorem dJ6_bitCount_0f7a4_2 : decode cJ6_bitCount_0f7a4 2 = .ok (.iconst 1, 1) := by decide +kernel
theorem dJ6_bitCount_0f7a4_3 : decode cJ6_bitCount_0f7a4 3 = .ok (.iushr, 1) := by decide +kernel
theorem dJ6_bitCount_0f7a4_4 : decode cJ6_bitCount_0f7a4 4 = .ok (.ldc_w 265, 3) := by decide +kernel
theorem dJ6_bitCount_0f7a4_7 : decode cJ6_bitCount_0f7a4 7 = .ok (.iand, 1) := by decide +kernel
theorem dJ6_bitCount_0f7a4_8 : decode cJ6_bitCount_0f7a4 8 = .ok (.isub, 1) := by decide +kernel
theorem dJ6_bitCount_0f7a4_9 : decode cJ6_bitCount_0f7a4 9 = .ok (.istore_n 0, 1) := by decide +kernel
theorem dJ6_bitCount_0f7a4_10 : decode cJ6_bitCount_0f7a4 10 = .ok (.iload_n 0, 1) := by decide +kernel
theorem dJ6_bitCount_0f7a4_11 : decode cJ6_bitCount_0f7a4 11 = .ok (.ldc_w 266, 3) := by decide +kernel
theorem dJ6_bitCount_0f7a4_14 : decode cJ6_bitCount_0f7a4 14 = .ok (.iand, 1) := by decide +kernel
theorem dJ6_bitCount_0f7a4_15 : decode cJ6_bitCount_0f7a4 15 = .ok (.iload_n 0, 1) := by decide +kernel
theorem dJ6_bitCount_0f7a4_16 : decode cJ6_bitCount_0f7a4 16 = .ok (.iconst 2, 1) := by decide +kernel
theorem dJ6_bitCount_0f7a4_17 : decode cJ6_bitCount_0f7a4 17 = .ok (.iushr, 1) := by decide +kernel
theorem dJ6_bitCount_0f7a4_18 : decode cJ6_bitCount_0f7a4 18 = .ok (.ldc_w 266, 3) := by decide +kernel
theorem dJ6_bitCount_0f7a4_21 : decode cJ6_bitCount_0f7a4 21 = .ok (.iand, 1) := by decide +kernel
theorem dJ6_bitCount_0f7a4_22 : decode cJ6_bitCount_0f7a4 22 = .ok (.iadd, 1) := by decide +kernel
theorem dJ6_bitCount_0f7a4_23 : decode cJ6_bitCount_0f7a4 23 = .ok (.istore_n 0, 1) := by decide +kernel
theorem dJ6_bitCount_0f7a4_24 : decode cJ6_bitCount_0f7a4 24 = .ok (.iload_n 0, 1) := by decide +kernel
theorem dJ6_bitCount_0f7a4_25 : decode cJ6_bitCount_0f7a4 25 = .ok (.iload_n 0, 1) := by decide +kernel
theorem dJ6_bitCount_0f7a4_26 : decode cJ6_bitCount_0f7a4 26 = .ok (.iconst 4, 1) := by decide +kernel
theorem dJ6_bitCount_0f7a4_27 : decode cJ6_bitCount_0f7a4 27 = .ok (.iushr, 1) := by decide +kernel
theorem dJ6_bitCount_0f7a4_28 : decode cJ6_bitCount_0f7a4 28 = .ok (.iadd, 1) := by decide +kernel
theorem dJ6_bitCount_0f7a4_29 : decode cJ6_bitCount_0f7a4 29 = .ok (.ldc_w 267, 3) := by decide +kernel
theorem dJ6_bitCount_0f7a4_32 : decode cJ6_bitCount_0f7a4 32 = .ok (.iand, 1) := by decide +kernel
theorem dJ6_bitCount_0f7a4_33 : decode cJ6_bitCount_0f7a4 33 = .ok (.istore_n 0, 1) := by decide +kernel
theorem dJ6_bitCount_0f7a4_34 : decode cJ6_bitCount_0f7a4 34 = .ok (.iload_n 0, 1) := by decide +kernel
theorem dJ6_bitCount_0f7a4_35 : decode cJ6_bitCount_0f7a4 35 = .ok (.iload_n 0, 1) := by decide +kernel
theorem dJ6_bitCount_0f7a4_36 : decode cJ6_bitCount_0f7a4 36 = .ok (.bipush 8, 2) := by decide +kernel
theorem dJ6_bitCount_0f7a4_38 : decode cJ6_bitCount_0f7a4 38 = .ok (.iushr, 1) := by decide +kernel
theorem dJ6_bitCount_0f7a4_39 : decode cJ6_bitCount_0f7a4 39 = .ok (.iadd, 1) := by decide +kernel
theorem dJ6_bitCount_0f7a4_40 : decode cJ6_bitCount_0f7a4 40 = .ok (.istore_n 0, 1) := by decide +kernel
theorem dJ6_bitCount_0f7a4_41 : decode cJ6_bitCount_0f7a4 41 = .ok (.iload_n 0, 1) := by decide +kernel
theorem dJ6_bitCount_0f7a4_42 : decode cJ6_bitCount_0f7a4 42 = .ok (.iload_n 0, 1) := by decide +kernel
theorem dJ6_bitCount_0f7a4_43 : decode cJ6_bitCount_0f7a4 43 = .ok (.bipush 16, 2) := by decide +kernel
theorem dJ6_bitCount_0f7a4_45 : decode cJ6_bitCount_0f7a4 45 = .ok (.iushr, 1) := by decide +kernel
theorem dJ6_bitCount_0f7a4_46 : decode cJ6_bitCount_0f7a4 46 = .ok (.iadd, 1) := by decide +kernel
theorem dJ6_bitCount_0f7a4_47 : decode cJ6_bitCount_0f7a4 47 = .ok (.istore_n 0, 1) := by decide +kernel
theorem dJ6_bitCount_0f7a4_48 : decode cJ6_bitCount_0f7a4 48 = .ok (.iload_n 0, 1) := by decide +kernel
theorem dJ6_bitCount_0f7a4_49 : decode cJ6_bitCount_0f7a4 49 = .ok (.bipush 63, 2) := by decide +kernel
theorem dJ6_bitCount_0f7a4_51 : decode cJ6_bitCount_0f7a4 51 = .ok (.iand, 1) := by decide +kernel
theorem dJ6_bitCount_0f7a4_52 : decode cJ6_bitCount_0f7a4 52 = .ok (.ireturn, 1) := by decide +kernel
theorem dJ9_abs_067f4_0 : decode cJ9_abs_067f4 0 = .ok (.lload_n 0, 1) := by decide +kernel
theorem dJ9_abs_067f4_1 : decode cJ9_abs_067f4 1 = .ok (.lconst 0, 1) := by decide +kernel
theorem dJ9_abs_067f4_2 : decode cJ9_abs_067f4 2 = .ok (.lcmp, 1) := by decide +kernel
theorem dJ9_abs_067f4_3 : decode cJ9_abs_067f4 3 = .ok (.ifCond .ge 8, 3) := by decide +kernel
theorem dJ9_abs_067f4_6 : decode cJ9_abs_067f4 6 = .ok (.lload_n 0, 1) := by decide +kernel
theorem dJ9_abs_067f4_7 : decode cJ9_abs_067f4 7 = .ok (.lneg, 1) := by decide +kernel
theorem dJ9_abs_067f4_8 : decode cJ9_abs_067f4 8 = .ok (.goto 4, 3) := by decide +kernel
theorem dJ9_abs_067f4_11 : decode cJ9_abs_067f4 11 = .ok (.lload_n 0, 1) := by decide +kernel
theorem dJ9_abs_067f4_12 : decode cJ9_abs_067f4 12 = .ok (.lreturn, 1) := by decide +kernel
theorem dJ9_max_7cf53_0 : decode cJ9_max_7cf53 0 = .ok (.iload_n 0, 1) := by decide +kernel
theorem dJ9_max_7cf53_1 : decode cJ9_max_7cf53 1 = .ok (.iload_n 1, 1) := by decide +kernel
theorem dJ9_max_7cf53_2 : decode cJ9_max_7cf53 2 = .ok (.if_icmp .lt 7, 3) := by decide +kernel
theorem dJ9_max_7cf53_5 : decode cJ9_max_7cf53 5 = .ok (.iload_n 0, 1) := by decide +kernel
theorem dJ9_max_7cf53_6 : decode cJ9_max_7cf53 6 = .ok (.goto 4, 3) := by decide +kernel
theorem dJ9_max_7cf53_9 : decode cJ9_max_7cf53 9 = .ok (.iload_n 1, 1) := by decide +kernel
theorem dJ9_max_7cf53_10 : decode cJ9_max_7cf53 10 = .ok (.ireturn, 1) := by decide +kernel
theorem dJ9_min_7cf53_0 : decode cJ9_min_7cf53 0 = .ok (.iload_n 0, 1) := by decide +kernel
theorem dJ9_min_7cf53_1 : decode cJ9_min_7cf53 1 = .ok (.iload_n 1, 1) := by decide +kernel
theorem dJ9_min_7cf53_2 : decode cJ9_min_7cf53 2 = .ok (.if_icmp .gt 7, 3) := by decide +kernel
theorem dJ9_min_7cf53_5 : decode cJ9_min_7cf53 5 = .ok (.iload_n 0, 1) := by decide +kernel
theorem dJ9_min_7cf53_6 : decode cJ9_min_7cf53 6 = .ok (.goto 4, 3) := by decide +kernel
theorem dJ9_min_7cf53_9 : decode cJ9_min_7cf53 9 = .ok (.iload_n 1, 1) := by decide +kernel
theorem dJ9_min_7cf53_10 : decode cJ9_min_7cf53 10 = .ok (.ireturn, 1) := by decide +kernel
set_option maxRecDepth 20000 in
theorem ggJ0_length_8abf5_J0_coder_7d493 : GoodIn wsJ0_length_8abf5 wsJ0_coder_7d493 := goodIn_r _ [6, 7, 8] (by decide +kernel) (by decide +kernel)
set_option maxRecDepth 20000 in
theorem gJ0_length_8abf5_J0_coder_7d493 : GoodIn wsJ0_length_8abf5 (wsV RJ0 335 RJ0 yJ0_coder_7d493 wsJ0_coder_7d493) := goodIn_app (goodIn_of _ (by decide +kernel)) ggJ0_length_8abf5_J0_coder_7d493
theorem dJ0_length_8abf5_0 : decode cJ0_length_8abf5 0 = .ok (.aload_n 0, 1) := by decide +kernel
theorem dJ0_length_8abf5_1 : decode cJ0_length_8abf5 1 = .ok (.getfield 9, 3) := by decide +kernel
theorem dJ0_length_8abf5_4 : decode cJ0_length_8abf5 4 = .ok (.arraylength, 1) := by decide +kernel
theorem dJ0_length_8abf5_5 : decode cJ0_length_8abf5 5 = .ok (.aload_n 0, 1) := by decide +kernel
theorem dJ0_length_8abf5_6 : decode cJ0_length_8abf5 6 = .ok (.invokevirtual 335, 3) := by decide +kernel
theorem dJ0_length_8abf5_9 : decode cJ0_length_8abf5 9 = .ok (.ishr, 1) := by decide +kernel
theorem dJ0_length_8abf5_10 : decode cJ0_length_8abf5 10 = .ok (.ireturn, 1) := by decide +kernel
set_option maxRecDepth 20000 in
theorem ggJ0_charAt_5068e_J0_isLatin1_aae02 : GoodIn wsJ0_charAt_5068e wsJ0_isLatin1_aae02 := goodIn_r _ [6, 7, 8] (by decide +kernel) (by decide +kernel)
set_option maxRecDepth 20000 in
theorem gJ0_charAt_5068e_J0_isLatin1_aae02 : GoodIn wsJ0_charAt_5068e (wsV RJ0 492 RJ0 yJ0_isLatin1_aae02 wsJ0_isLatin1_aae02) := goodIn_app (goodIn_of _ (by decide +kernel)) ggJ0_charAt_5068e_J0_isLatin1_aae02
set_option maxRecDepth 20000 in
theorem ggJ0_charAt_5068e_J1_charAt_3b067 : GoodIn wsJ0_charAt_5068e wsJ1_charAt_3b067 := goodIn_r _ [12, 13, 14, 5, 15, 16, 17, 18, 19, 20] (by decide +kernel) (by decide +kernel)
set_option maxRecDepth 20000 in
theorem gJ0_charAt_5068e_J1_charAt_3b067 : GoodIn wsJ0_charAt_5068e (va_wsS RJ0 495 yJ1_charAt_3b067 wsJ1_charAt_3b067) := goodIn_app (goodIn_of _ (by decide +kernel)) ggJ0_charAt_5068e_J1_charAt_3b067
set_option maxRecDepth 20000 in
theorem ggJ0_charAt_5068e_J2_charAt_3b067 : GoodIn wsJ0_charAt_5068e wsJ2_charAt_3b067 := goodIn_r _ [24, 25, 26, 23, 27, 28, 29, 30, 31, 14, 5, 15, 16, 17, 18, 19, 20, 32, 33, 34, 35, 36, 37] (by decide +kernel) (by decide +kernel)
set_option maxRecDepth 20000 in
theorem gJ0_charAt_5068e_J2_charAt_3b067 : GoodIn wsJ0_charAt_5068e (va_wsS RJ0 498 yJ2_charAt_3b067 wsJ2_charAt_3b067) := goodIn_app (goodIn_of _ (by decide +kernel)) ggJ0_charAt_5068e_J2_charAt_3b067
theorem dJ0_charAt_5068e_0 : decode cJ0_charAt_5068e 0 = .ok (.aload_n 0, 1) := by decide +kernel
theorem dJ0_charAt_5068e_1 : decode cJ0_charAt_5068e 1 = .ok (.invokevirtual 492, 3) := by decide +kernel
theorem dJ0_charAt_5068e_4 : decode cJ0_charAt_5068e 4 = .ok (.ifCond .eq 12, 3) := by decide +kernel
theorem dJ0_charAt_5068e_7 : decode cJ0_charAt_5068e 7 = .ok (.aload_n 0, 1) := by decide +kernel
theorem dJ0_charAt_5068e_8 : decode cJ0_charAt_5068e 8 = .ok (.getfield 9, 3) := by decide +kernel
theorem dJ0_charAt_5068e_11 : decode cJ0_charAt_5068e 11 = .ok (.iload_n 1, 1) := by decide +kernel
theorem dJ0_charAt_5068e_12 : decode cJ0_charAt_5068e 12 = .ok (.invokestatic 495, 3) := by decide +kernel
theorem dJ0_charAt_5068e_15 : decode cJ0_charAt_5068e 15 = .ok (.ireturn, 1) := by decide +kernel
theorem dJ0_charAt_5068e_16 : decode cJ0_charAt_5068e 16 = .ok (.aload_n 0, 1) := by decide +kernel
theorem dJ0_charAt_5068e_17 : decode cJ0_charAt_5068e 17 = .ok (.getfield 9, 3) := by decide +kernel
theorem dJ0_charAt_5068e_20 : decode cJ0_charAt_5068e 20 = .ok (.iload_n 1, 1) := by decide +kernel
theorem dJ0_charAt_5068e_21 : decode cJ0_charAt_5068e 21 = .ok (.invokestatic 498, 3) := by decide +kernel
theorem dJ0_charAt_5068e_24 : decode cJ0_charAt_5068e 24 = .ok (.ireturn, 1) := by decide +kernel
theorem dJ0_coder_7d493_0 : decode cJ0_coder_7d493 0 = .ok (.getstatic 38, 3) := by decide +kernel
theorem dJ0_coder_7d493_3 : decode cJ0_coder_7d493 3 = .ok (.ifCond .eq 10, 3) := by decide +kernel
theorem dJ0_coder_7d493_6 : decode cJ0_coder_7d493 6 = .ok (.aload_n 0, 1) := by decide +kernel
theorem dJ0_coder_7d493_7 : decode cJ0_coder_7d493 7 = .ok (.getfield 15, 3) := by decide +kernel
theorem dJ0_coder_7d493_10 : decode cJ0_coder_7d493 10 = .ok (.goto 4, 3) := by decide +kernel
theorem dJ0_coder_7d493_13 : decode cJ0_coder_7d493 13 = .ok (.iconst 1, 1) := by decide +kernel
theorem dJ0_coder_7d493_14 : decode cJ0_coder_7d493 14 = .ok (.ireturn, 1) := by decide +kernel
theorem dJ0_isLatin1_aae02_0 : decode cJ0_isLatin1_aae02 0 = .ok (.getstatic 38, 3) := by decide +kernel
theorem dJ0_isLatin1_aae02_3 : decode cJ0_isLatin1_aae02 3 = .ok (.ifCond .eq 14, 3) := by decide +kernel
theorem dJ0_isLatin1_aae02_6 : decode cJ0_isLatin1_aae02 6 = .ok (.aload_n 0, 1) := by decide +kernel
theorem dJ0_isLatin1_aae02_7 : decode cJ0_isLatin1_aae02 7 = .ok (.getfield 15, 3) := by decide +kernel
theorem dJ0_isLatin1_aae02_10 : decode cJ0_isLatin1_aae02 10 = .ok (.ifCond .ne 7, 3) := by decide +kernel
theorem dJ0_isLatin1_aae02_13 : decode cJ0_isLatin1_aae02 13 = .ok (.iconst 1, 1) := by decide +kernel
theorem dJ0_isLatin1_aae02_14 : decode cJ0_isLatin1_aae02 14 = .ok (.goto 4, 3) := by decide +kernel
theorem dJ0_isLatin1_aae02_17 : decode cJ0_isLatin1_aae02 17 = .ok (.iconst 0, 1) := by decide +kernel
theorem dJ0_isLatin1_aae02_18 : decode cJ0_isLatin1_aae02 18 = .ok (.ireturn, 1) := by decide +kernel
set_option maxRecDepth 20000 in
theorem ggJ0_checkIndex_df160_J3_checkIndex_8e157 : GoodIn wsJ0_checkIndex_df160 wsJ3_checkIndex_8e157 := goodIn_r _ [5] (by decide +kernel) (by decide +kernel)
set_option maxRecDepth 20000 in
theorem gJ0_checkIndex_df160_J3_checkIndex_8e157 : GoodIn wsJ0_checkIndex_df160 (va_wsS RJ0 1059 yJ3_checkIndex_8e157 wsJ3_checkIndex_8e157) := goodIn_app (goodIn_of _ (by decide +kernel)) ggJ0_checkIndex_df160_J3_checkIndex_8e157
theorem dJ0_checkIndex_df160_0 : decode cJ0_checkIndex_df160 0 = .ok (.iload_n 0, 1) := by decide +kernel
theorem dJ0_checkIndex_df160_1 : decode cJ0_checkIndex_df160 1 = .ok (.iload_n 1, 1) := by decide +kernel
theorem dJ0_checkIndex_df160_2 : decode cJ0_checkIndex_df160 2 = .ok (.getstatic 1053, 3) := by decide +kernel
theorem dJ0_checkIndex_df160_5 : decode cJ0_checkIndex_df160 5 = .ok (.invokestatic 1059, 3) := by decide +kernel
theorem dJ0_checkIndex_df160_8 : decode cJ0_checkIndex_df160 8 = .ok (.pop, 1) := by decide +kernel
theorem dJ0_checkIndex_df160_9 : decode cJ0_checkIndex_df160 9 = .ok (.return_, 1) := by decide +kernel
set_option maxRecDepth 20000 in
theorem ggJ1_charAt_3b067_J0_checkIndex_df160 : GoodIn wsJ1_charAt_3b067 wsJ0_checkIndex_df160 := goodIn_r _ [4, 5, 6, 7, 8, 9] (by decide +kernel) (by decide +kernel)
set_option maxRecDepth 20000 in
theorem gJ1_charAt_3b067_J0_checkIndex_df160 : GoodIn wsJ1_charAt_3b067 (va_wsS RJ1 9 yJ0_checkIndex_df160 wsJ0_checkIndex_df160) := goodIn_app (goodIn_of _ (by decide +kernel)) ggJ1_charAt_3b067_J0_checkIndex_df160
theorem dJ1_charAt_3b067_0 : decode cJ1_charAt_3b067 0 = .ok (.iload_n 1, 1) := by decide +kernel
theorem dJ1_charAt_3b067_1 : decode cJ1_charAt_3b067 1 = .ok (.aload_n 0, 1) := by decide +kernel
theorem dJ1_charAt_3b067_2 : decode cJ1_charAt_3b067 2 = .ok (.arraylength, 1) := by decide +kernel
theorem dJ1_charAt_3b067_3 : decode cJ1_charAt_3b067 3 = .ok (.invokestatic 9, 3) := by decide +kernel
theorem dJ1_charAt_3b067_6 : decode cJ1_charAt_3b067 6 = .ok (.aload_n 0, 1) := by decide +kernel
theorem dJ1_charAt_3b067_7 : decode cJ1_charAt_3b067 7 = .ok (.iload_n 1, 1) := by decide +kernel
theorem dJ1_charAt_3b067_8 : decode cJ1_charAt_3b067 8 = .ok (.baload, 1) := by decide +kernel
theorem dJ1_charAt_3b067_9 : decode cJ1_charAt_3b067 9 = .ok (.sipush 255, 3) := by decide +kernel
theorem dJ1_charAt_3b067_12 : decode cJ1_charAt_3b067 12 = .ok (.iand, 1) := by decide +kernel
theorem dJ1_charAt_3b067_13 : decode cJ1_charAt_3b067 13 = .ok (.i2c, 1) := by decide +kernel
theorem dJ1_charAt_3b067_14 : decode cJ1_charAt_3b067 14 = .ok (.ireturn, 1) := by decide +kernel
set_option maxRecDepth 20000 in
theorem ggJ2_getChar_3b067_J2_length_9d52b : GoodIn wsJ2_getChar_3b067 wsJ2_length_9d52b := goodIn_r _ [7] (by decide +kernel) (by decide +kernel)
set_option maxRecDepth 20000 in
theorem gJ2_getChar_3b067_J2_length_9d52b : GoodIn wsJ2_getChar_3b067 (va_wsS RJ2 48 yJ2_length_9d52b wsJ2_length_9d52b) := goodIn_app (goodIn_of _ (by decide +kernel)) ggJ2_getChar_3b067_J2_length_9d52b
theorem dJ2_getChar_3b067_0 : decode cJ2_getChar_3b067 0 = .ok (.getstatic 44, 3) := by decide +kernel
theorem dJ2_getChar_3b067_3 : decode cJ2_getChar_3b067 3 = .ok (.ifCond .ne 25, 3) := by decide +kernel
theorem dJ2_getChar_3b067_6 : decode cJ2_getChar_3b067 6 = .ok (.iload_n 1, 1) := by decide +kernel
theorem dJ2_getChar_3b067_7 : decode cJ2_getChar_3b067 7 = .ok (.ifCond .lt 11, 3) := by decide +kernel
theorem dJ2_getChar_3b067_10 : decode cJ2_getChar_3b067 10 = .ok (.iload_n 1, 1) := by decide +kernel
theorem dJ2_getChar_3b067_11 : decode cJ2_getChar_3b067 11 = .ok (.aload_n 0, 1) := by decide +kernel
theorem dJ2_getChar_3b067_12 : decode cJ2_getChar_3b067 12 = .ok (.invokestatic 48, 3) := by decide +kernel
theorem dJ2_getChar_3b067_15 : decode cJ2_getChar_3b067 15 = .ok (.if_icmp .lt 13, 3) := by decide +kernel
theorem dJ2_getChar_3b067_18 : decode cJ2_getChar_3b067 18 = .ok (.new 52, 3) := by decide +kernel
theorem dJ2_getChar_3b067_21 : decode cJ2_getChar_3b067 21 = .ok (.dup, 1) := by decide +kernel
theorem dJ2_getChar_3b067_22 : decode cJ2_getChar_3b067 22 = .ok (.ldc 54, 2) := by decide +kernel
theorem dJ2_getChar_3b067_24 : decode cJ2_getChar_3b067 24 = .ok (.invokespecial 56, 3) := by decide +kernel
theorem dJ2_getChar_3b067_27 : decode cJ2_getChar_3b067 27 = .ok (.athrow, 1) := by decide +kernel
theorem dJ2_getChar_3b067_28 : decode cJ2_getChar_3b067 28 = .ok (.iload_n 1, 1) := by decide +kernel
theorem dJ2_getChar_3b067_29 : decode cJ2_getChar_3b067 29 = .ok (.iconst 1, 1) := by decide +kernel
theorem dJ2_getChar_3b067_30 : decode cJ2_getChar_3b067 30 = .ok (.ishl, 1) := by decide +kernel
theorem dJ2_getChar_3b067_31 : decode cJ2_getChar_3b067 31 = .ok (.istore_n 1, 1) := by decide +kernel
theorem dJ2_getChar_3b067_32 : decode cJ2_getChar_3b067 32 = .ok (.aload_n 0, 1) := by decide +kernel
theorem dJ2_getChar_3b067_33 : decode cJ2_getChar_3b067 33 = .ok (.iload_n 1, 1) := by decide +kernel
theorem dJ2_getChar_3b067_34 : decode cJ2_getChar_3b067 34 = .ok (.iinc 1 1, 3) := by decide +kernel
theorem dJ2_getChar_3b067_37 : decode cJ2_getChar_3b067 37 = .ok (.baload, 1) := by decide +kernel
theorem dJ2_getChar_3b067_38 : decode cJ2_getChar_3b067 38 = .ok (.sipush 255, 3) := by decide +kernel
theorem dJ2_getChar_3b067_41 : decode cJ2_getChar_3b067 41 = .ok (.iand, 1) := by decide +kernel
theorem dJ2_getChar_3b067_42 : decode cJ2_getChar_3b067 42 = .ok (.getstatic 59, 3) := by decide +kernel
theorem dJ2_getChar_3b067_45 : decode cJ2_getChar_3b067 45 = .ok (.ishl, 1) := by decide +kernel
theorem dJ2_getChar_3b067_46 : decode cJ2_getChar_3b067 46 = .ok (.aload_n 0, 1) := by decide +kernel
theorem dJ2_getChar_3b067_47 : decode cJ2_getChar_3b067 47 = .ok (.iload_n 1, 1) := by decide +kernel
theorem dJ2_getChar_3b067_48 : decode cJ2_getChar_3b067 48 = .ok (.baload, 1) := by decide +kernel
theorem dJ2_getChar_3b067_49 : decode cJ2_getChar_3b067 49 = .ok (.sipush 255, 3) := by decide +kernel
theorem dJ2_getChar_3b067_52 : decode cJ2_getChar_3b067 52 = .ok (.iand, 1) := by decide +kernel
theorem dJ2_getChar_3b067_53 : decode cJ2_getChar_3b067 53 = .ok (.getstatic 63, 3) := by decide +kernel
theorem dJ2_getChar_3b067_56 : decode cJ2_getChar_3b067 56 = .ok (.ishl, 1) := by decide +kernel
theorem dJ2_getChar_3b067_57 : decode cJ2_getChar_3b067 57 = .ok (.ior, 1) := by decide +kernel
theorem dJ2_getChar_3b067_58 : decode cJ2_getChar_3b067 58 = .ok (.i2c, 1) := by decide +kernel
theorem dJ2_getChar_3b067_59 : decode cJ2_getChar_3b067 59 = .ok (.ireturn, 1) := by decide +kernel
theorem dJ2_length_9d52b_0 : decode cJ2_length_9d52b 0 = .ok (.aload_n 0, 1) := by decide +kernel
theorem dJ2_length_9d52b_1 : decode cJ2_length_9d52b 1 = .ok (.arraylength, 1) := by decide +kernel
theorem dJ2_length_9d52b_2 : decode cJ2_length_9d52b 2 = .ok (.iconst 1, 1) := by decide +kernel
theorem dJ2_length_9d52b_3 : decode cJ2_length_9d52b 3 = .ok (.ishr, 1) := by decide +kernel
theorem dJ2_length_9d52b_4 : decode cJ2_length_9d52b 4 = .ok (.ireturn, 1) := by decide +kernel
set_option maxRecDepth 20000 in
theorem ggJ2_charAt_3b067_J2_checkIndex_2214a : GoodIn wsJ2_charAt_3b067 wsJ2_checkIndex_2214a := goodIn_r _ [4, 5, 6, 3, 7, 8, 9, 10, 11, 12, 13, 14, 15, 16] (by decide +kernel) (by decide +kernel)
set_option maxRecDepth 20000 in
theorem gJ2_charAt_3b067_J2_checkIndex_2214a : GoodIn wsJ2_charAt_3b067 (va_wsS RJ2 67 yJ2_checkIndex_2214a wsJ2_checkIndex_2214a) := goodIn_app (goodIn_of _ (by decide +kernel)) ggJ2_charAt_3b067_J2_checkIndex_2214a
set_option maxRecDepth 20000 in
theorem ggJ2_charAt_3b067_J2_getChar_3b067 : GoodIn wsJ2_charAt_3b067 wsJ2_getChar_3b067 := goodIn_r _ [19, 20, 21, 22, 5, 6, 3, 7] (by decide +kernel) (by decide +kernel)
set_option maxRecDepth 20000 in
theorem gJ2_charAt_3b067_J2_getChar_3b067 : GoodIn wsJ2_charAt_3b067 (va_wsS RJ2 71 yJ2_getChar_3b067 wsJ2_getChar_3b067) := goodIn_app (goodIn_of _ (by decide +kernel)) ggJ2_charAt_3b067_J2_getChar_3b067
theorem dJ2_charAt_3b067_0 : decode cJ2_charAt_3b067 0 = .ok (.iload_n 1, 1) := by decide +kernel
theorem dJ2_charAt_3b067_1 : decode cJ2_charAt_3b067 1 = .ok (.aload_n 0, 1) := by decide +kernel
theorem dJ2_charAt_3b067_2 : decode cJ2_charAt_3b067 2 = .ok (.invokestatic 67, 3) := by decide +kernel
theorem dJ2_charAt_3b067_5 : decode cJ2_charAt_3b067 5 = .ok (.aload_n 0, 1) := by decide +kernel
theorem dJ2_charAt_3b067_6 : decode cJ2_charAt_3b067 6 = .ok (.iload_n 1, 1) := by decide +kernel
theorem dJ2_charAt_3b067_7 : decode cJ2_charAt_3b067 7 = .ok (.invokestatic 71, 3) := by decide +kernel
theorem dJ2_charAt_3b067_10 : decode cJ2_charAt_3b067 10 = .ok (.ireturn, 1) := by decide +kernel
set_option maxRecDepth 20000 in
theorem ggJ2_checkIndex_2214a_J2_length_9d52b : GoodIn wsJ2_checkIndex_2214a wsJ2_length_9d52b := goodIn_r _ [4] (by decide +kernel) (by decide +kernel)
set_option maxRecDepth 20000 in
theorem gJ2_checkIndex_2214a_J2_length_9d52b : GoodIn wsJ2_checkIndex_2214a (va_wsS RJ2 48 yJ2_length_9d52b wsJ2_length_9d52b) := goodIn_app (goodIn_of _ (by decide +kernel)) ggJ2_checkIndex_2214a_J2_length_9d52b
set_option maxRecDepth 20000 in
theorem ggJ2_checkIndex_2214a_J0_checkIndex_df160 : GoodIn wsJ2_checkIndex_2214a wsJ0_checkIndex_df160 := goodIn_r _ [8, 9, 10, 11, 12, 13] (by decide +kernel) (by decide +kernel)
set_option maxRecDepth 20000 in
theorem gJ2_checkIndex_2214a_J0_checkIndex_df160 : GoodIn wsJ2_checkIndex_2214a (va_wsS RJ2 414 yJ0_checkIndex_df160 wsJ0_checkIndex_df160) := goodIn_app (goodIn_of _ (by decide +kernel)) ggJ2_checkIndex_2214a_J0_checkIndex_df160
theorem dJ2_checkIndex_2214a_0 : decode cJ2_checkIndex_2214a 0 = .ok (.iload_n 0, 1) := by decide +kernel
theorem dJ2_checkIndex_2214a_1 : decode cJ2_checkIndex_2214a 1 = .ok (.aload_n 1, 1) := by decide +kernel
theorem dJ2_checkIndex_2214a_2 : decode cJ2_checkIndex_2214a 2 = .ok (.invokestatic 48, 3) := by decide +kernel
theorem dJ2_checkIndex_2214a_5 : decode cJ2_checkIndex_2214a 5 = .ok (.invokestatic 414, 3) := by decide +kernel
theorem dJ2_checkIndex_2214a_8 : decode cJ2_checkIndex_2214a 8 = .ok (.return_, 1) := by decide +kernel
theorem dJ3_checkIndex_8e157_0 : decode cJ3_checkIndex_8e157 0 = .ok (.iload_n 0, 1) := by decide +kernel
theorem dJ3_checkIndex_8e157_1 : decode cJ3_checkIndex_8e157 1 = .ok (.ifCond .lt 8, 3) := by decide +kernel
theorem dJ3_checkIndex_8e157_4 : decode cJ3_checkIndex_8e157 4 = .ok (.iload_n 0, 1) := by decide +kernel
theorem dJ3_checkIndex_8e157_5 : decode cJ3_checkIndex_8e157 5 = .ok (.iload_n 1, 1) := by decide +kernel
theorem dJ3_checkIndex_8e157_6 : decode cJ3_checkIndex_8e157 6 = .ok (.if_icmp .lt 10, 3) := by decide +kernel
theorem dJ3_checkIndex_8e157_9 : decode cJ3_checkIndex_8e157 9 = .ok (.aload_n 2, 1) := by decide +kernel
theorem dJ3_checkIndex_8e157_10 : decode cJ3_checkIndex_8e157 10 = .ok (.iload_n 0, 1) := by decide +kernel
theorem dJ3_checkIndex_8e157_11 : decode cJ3_checkIndex_8e157 11 = .ok (.iload_n 1, 1) := by decide +kernel
theorem dJ3_checkIndex_8e157_12 : decode cJ3_checkIndex_8e157 12 = .ok (.invokestatic 95, 3) := by decide +kernel
theorem dJ3_checkIndex_8e157_15 : decode cJ3_checkIndex_8e157 15 = .ok (.athrow, 1) := by decide +kernel
theorem dJ3_checkIndex_8e157_16 : decode cJ3_checkIndex_8e157 16 = .ok (.iload_n 0, 1) := by decide +kernel
theorem dJ3_checkIndex_8e157_17 : decode cJ3_checkIndex_8e157 17 = .ok (.ireturn, 1) := by decide +kernel
