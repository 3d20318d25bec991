theorem dX7_readsHead_62 : decode cX7_readsHead 62 = .ok (.ifCond .eq 10, 3) := by decide +kernel
theorem dX7_readsHead_65 : decode cX7_readsHead 65 = .ok (.aload_n 0, 1) := by decide +kernel
theorem dX7_readsHead_66 : decode cX7_readsHead 66 = .ok (.invokevirtual 100, 3) := by decide +kernel
theorem dX7_readsHead_69 : decode cX7_readsHead 69 = .ok (.ifCond .ne 5, 3) := by decide +kernel
theorem dX7_readsHead_72 : decode cX7_readsHead 72 = .ok (.iconst 0, 1) := by decide +kernel
theorem dX7_readsHead_73 : decode cX7_readsHead 73 = .ok (.ireturn, 1) := by decide +kernel
theorem dX7_readsHead_74 : decode cX7_readsHead 74 = .ok (.aload_n 1, 1) := by decide +kernel
theorem dX7_readsHead_75 : decode cX7_readsHead 75 = .ok (.aload_n 0, 1) := by decide +kernel
theorem dX7_readsHead_76 : decode cX7_readsHead 76 = .ok (.getfield 104, 3) := by decide +kernel
theorem dX7_readsHead_79 : decode cX7_readsHead 79 = .ok (.putfield 115, 3) := by decide +kernel
theorem dX7_readsHead_82 : decode cX7_readsHead 82 = .ok (.aload_n 0, 1) := by decide +kernel
theorem dX7_readsHead_83 : decode cX7_readsHead 83 = .ok (.ldc 117, 2) := by decide +kernel
theorem dX7_readsHead_85 : decode cX7_readsHead 85 = .ok (.invokevirtual 97, 3) := by decide +kernel
theorem dX7_readsHead_88 : decode cX7_readsHead 88 = .ok (.ifCond .eq 13, 3) := by decide +kernel
theorem dX7_readsHead_91 : decode cX7_readsHead 91 = .ok (.aload_n 0, 1) := by decide +kernel
theorem dX7_readsHead_92 : decode cX7_readsHead 92 = .ok (.iconst 0, 1) := by decide +kernel
theorem dX7_readsHead_93 : decode cX7_readsHead 93 = .ok (.bipush 100, 2) := by decide +kernel
theorem dX7_readsHead_95 : decode cX7_readsHead 95 = .ok (.invokevirtual 119, 3) := by decide +kernel
theorem dX7_readsHead_98 : decode cX7_readsHead 98 = .ok (.ifCond .ne 5, 3) := by decide +kernel
theorem dX7_readsHead_101 : decode cX7_readsHead 101 = .ok (.iconst 0, 1) := by decide +kernel
theorem dX7_readsHead_102 : decode cX7_readsHead 102 = .ok (.ireturn, 1) := by decide +kernel
theorem dX7_readsHead_103 : decode cX7_readsHead 103 = .ok (.aload_n 1, 1) := by decide +kernel
theorem dX7_readsHead_104 : decode cX7_readsHead 104 = .ok (.aload_n 0, 1) := by decide +kernel
theorem dX7_readsHead_105 : decode cX7_readsHead 105 = .ok (.getfield 58, 3) := by decide +kernel
theorem dX7_readsHead_108 : decode cX7_readsHead 108 = .ok (.putfield 123, 3) := by decide +kernel
theorem dX7_readsHead_111 : decode cX7_readsHead 111 = .ok (.aload_n 1, 1) := by decide +kernel
theorem dX7_readsHead_112 : decode cX7_readsHead 112 = .ok (.iconst 1, 1) := by decide +kernel
theorem dX7_readsHead_113 : decode cX7_readsHead 113 = .ok (.putfield 67, 3) := by decide +kernel
theorem dX7_readsHead_116 : decode cX7_readsHead 116 = .ok (.aload_n 0, 1) := by decide +kernel
theorem dX7_readsHead_117 : decode cX7_readsHead 117 = .ok (.invokevirtual 30, 3) := by decide +kernel
theorem dX7_readsHead_120 : decode cX7_readsHead 120 = .ok (.iconst 1, 1) := by decide +kernel
theorem dX7_readsHead_121 : decode cX7_readsHead 121 = .ok (.ireturn, 1) := by decide +kernel
set_option maxRecDepth 20000 in
theorem ggX7_readsStack_X7_advance : GoodIn wsX7_readsStack wsX7_advance := goodIn_r _ [8, 9, 10, 11, 12, 1, 13, 2, 3, 14, 15, 16, 17, 18, 19, 20, 21, 7, 22, 23, 24, 25, 26, 27, 28, 29, 30, 31, 32, 33, 34, 125, 126, 127, 128, 129, 130, 131, 132, 133, 134, 135, 136] (by decide +kernel) (by decide +kernel)
set_option maxRecDepth 20000 in
theorem gX7_readsStack_X7_advance : GoodIn wsX7_readsStack (wsV RX7 30 RX7 yX7_advance wsX7_advance) := goodIn_app (goodIn_of _ (by decide +kernel)) ggX7_readsStack_X7_advance
set_option maxRecDepth 20000 in
theorem ggX7_readsStack_X7_isName : GoodIn wsX7_readsStack wsX7_isName := goodIn_r _ [38, 2, 3, 39, 40, 41, 7, 42, 1, 43, 44, 45, 27, 46, 47, 48, 49, 50, 51, 52, 53, 54, 55, 56, 57, 58, 59, 60, 61, 62, 63, 64, 65, 66, 67, 68, 69, 70, 71, 72, 73, 74, 75, 76, 77, 78, 79, 80, 81, 82, 83, 84, 85, 86, 87, 88, 89, 90, 91, 92, 93, 94, 125, 126, 127, 128, 129, 130, 131, 132, 133, 134] (by decide +kernel) (by decide +kernel)
set_option maxRecDepth 20000 in
theorem gX7_readsStack_X7_isName : GoodIn wsX7_readsStack (wsV RX7 125 RX7 yX7_isName wsX7_isName) := goodIn_app (goodIn_of _ (by decide +kernel)) ggX7_readsStack_X7_isName
set_option maxRecDepth 20000 in
theorem ggX7_readsStack_X7_fails : GoodIn wsX7_readsStack wsX7_fails := goodIn_r _ [98, 99, 125, 126, 127, 128, 129, 130, 131, 132, 133, 134] (by decide +kernel) (by decide +kernel)
set_option maxRecDepth 20000 in
theorem gX7_readsStack_X7_fails : GoodIn wsX7_readsStack (wsV RX7 54 RX7 yX7_fails wsX7_fails) := goodIn_app (goodIn_of _ (by decide +kernel)) ggX7_readsStack_X7_fails
set_option maxRecDepth 20000 in
theorem ggX7_readsStack_X4_stackNamed : GoodIn wsX7_readsStack wsX4_stackNamed := goodIn_r _ [104, 105, 106, 137, 138, 139, 140, 141, 142, 143, 144, 145, 146, 147, 148, 149, 150, 151, 152, 153] (by decide +kernel) (by decide +kernel)
set_option maxRecDepth 20000 in
theorem gX7_readsStack_X4_stackNamed : GoodIn wsX7_readsStack (wsV RX7 132 RX4 yX4_stackNamed wsX4_stackNamed) := goodIn_app (goodIn_of _ (by decide +kernel)) ggX7_readsStack_X4_stackNamed
set_option maxRecDepth 20000 in
theorem ggX7_readsStack_X7_rowOfWord : GoodIn wsX7_readsStack wsX7_rowOfWord := goodIn_r _ [110, 3, 11, 12, 14, 15, 16, 17, 18, 19, 125, 126, 127, 128, 129, 130, 131, 132, 133, 134, 135, 136] (by decide +kernel) (by decide +kernel)
set_option maxRecDepth 20000 in
theorem gX7_readsStack_X7_rowOfWord : GoodIn wsX7_readsStack (wsV RX7 136 RX7 yX7_rowOfWord wsX7_rowOfWord) := goodIn_app (goodIn_of _ (by decide +kernel)) ggX7_readsStack_X7_rowOfWord
set_option maxRecDepth 20000 in
theorem ggX7_readsStack_X4_addStack : GoodIn wsX7_readsStack wsX4_addStack := goodIn_r _ [114, 105, 106, 115, 116, 117, 118, 119, 120, 121, 122, 123, 124, 137, 138, 139, 140, 141, 142, 143, 144, 145, 146, 147, 148, 149, 150, 151, 152, 153] (by decide +kernel) (by decide +kernel)
set_option maxRecDepth 20000 in
theorem gX7_readsStack_X4_addStack : GoodIn wsX7_readsStack (wsV RX7 143 RX4 yX4_addStack wsX4_addStack) := goodIn_app (goodIn_of _ (by decide +kernel)) ggX7_readsStack_X4_addStack
theorem dX7_readsStack_0 : decode cX7_readsStack 0 = .ok (.aload_n 0, 1) := by decide +kernel
theorem dX7_readsStack_1 : decode cX7_readsStack 1 = .ok (.invokevirtual 30, 3) := by decide +kernel
theorem dX7_readsStack_4 : decode cX7_readsStack 4 = .ok (.aload_n 0, 1) := by decide +kernel
theorem dX7_readsStack_5 : decode cX7_readsStack 5 = .ok (.invokevirtual 125, 3) := by decide +kernel
theorem dX7_readsStack_8 : decode cX7_readsStack 8 = .ok (.ifCond .ne 9, 3) := by decide +kernel
theorem dX7_readsStack_11 : decode cX7_readsStack 11 = .ok (.aload_n 0, 1) := by decide +kernel
theorem dX7_readsStack_12 : decode cX7_readsStack 12 = .ok (.iconst 1, 1) := by decide +kernel
theorem dX7_readsStack_13 : decode cX7_readsStack 13 = .ok (.invokevirtual 54, 3) := by decide +kernel
theorem dX7_readsStack_16 : decode cX7_readsStack 16 = .ok (.ireturn, 1) := by decide +kernel
theorem dX7_readsStack_17 : decode cX7_readsStack 17 = .ok (.aload_n 1, 1) := by decide +kernel
theorem dX7_readsStack_18 : decode cX7_readsStack 18 = .ok (.aload_n 0, 1) := by decide +kernel
theorem dX7_readsStack_19 : decode cX7_readsStack 19 = .ok (.getfield 128, 3) := by decide +kernel
theorem dX7_readsStack_22 : decode cX7_readsStack 22 = .ok (.invokevirtual 132, 3) := by decide +kernel
theorem dX7_readsStack_25 : decode cX7_readsStack 25 = .ok (.iconst (-1), 1) := by decide +kernel
theorem dX7_readsStack_26 : decode cX7_readsStack 26 = .ok (.if_icmp .eq 9, 3) := by decide +kernel
theorem dX7_readsStack_29 : decode cX7_readsStack 29 = .ok (.aload_n 0, 1) := by decide +kernel
theorem dX7_readsStack_30 : decode cX7_readsStack 30 = .ok (.iconst 3, 1) := by decide +kernel
theorem dX7_readsStack_31 : decode cX7_readsStack 31 = .ok (.invokevirtual 54, 3) := by decide +kernel
theorem dX7_readsStack_34 : decode cX7_readsStack 34 = .ok (.ireturn, 1) := by decide +kernel
theorem dX7_readsStack_35 : decode cX7_readsStack 35 = .ok (.aload_n 0, 1) := by decide +kernel
theorem dX7_readsStack_36 : decode cX7_readsStack 36 = .ok (.getfield 128, 3) := by decide +kernel
theorem dX7_readsStack_39 : decode cX7_readsStack 39 = .ok (.lstore_n 2, 1) := by decide +kernel
theorem dX7_readsStack_40 : decode cX7_readsStack 40 = .ok (.aload_n 0, 1) := by decide +kernel
theorem dX7_readsStack_41 : decode cX7_readsStack 41 = .ok (.invokevirtual 30, 3) := by decide +kernel
theorem dX7_readsStack_44 : decode cX7_readsStack 44 = .ok (.aload_n 0, 1) := by decide +kernel
theorem dX7_readsStack_45 : decode cX7_readsStack 45 = .ok (.getfield 42, 3) := by decide +kernel
theorem dX7_readsStack_48 : decode cX7_readsStack 48 = .ok (.iconst 1, 1) := by decide +kernel
theorem dX7_readsStack_49 : decode cX7_readsStack 49 = .ok (.if_icmp .eq 9, 3) := by decide +kernel
theorem dX7_readsStack_52 : decode cX7_readsStack 52 = .ok (.aload_n 0, 1) := by decide +kernel
theorem dX7_readsStack_53 : decode cX7_readsStack 53 = .ok (.iconst 1, 1) := by decide +kernel
theorem dX7_readsStack_54 : decode cX7_readsStack 54 = .ok (.invokevirtual 54, 3) := by decide +kernel
theorem dX7_readsStack_57 : decode cX7_readsStack 57 = .ok (.ireturn, 1) := by decide +kernel
theorem dX7_readsStack_58 : decode cX7_readsStack 58 = .ok (.aload_n 0, 1) := by decide +kernel
theorem dX7_readsStack_59 : decode cX7_readsStack 59 = .ok (.invokevirtual 136, 3) := by decide +kernel
theorem dX7_readsStack_62 : decode cX7_readsStack 62 = .ok (.istore 4, 2) := by decide +kernel
theorem dX7_readsStack_64 : decode cX7_readsStack 64 = .ok (.iload 4, 2) := by decide +kernel
theorem dX7_readsStack_66 : decode cX7_readsStack 66 = .ok (.iconst (-1), 1) := by decide +kernel
theorem dX7_readsStack_67 : decode cX7_readsStack 67 = .ok (.if_icmp .ne 10, 3) := by decide +kernel
theorem dX7_readsStack_70 : decode cX7_readsStack 70 = .ok (.aload_n 0, 1) := by decide +kernel
theorem dX7_readsStack_71 : decode cX7_readsStack 71 = .ok (.bipush 7, 2) := by decide +kernel
theorem dX7_readsStack_73 : decode cX7_readsStack 73 = .ok (.invokevirtual 54, 3) := by decide +kernel
theorem dX7_readsStack_76 : decode cX7_readsStack 76 = .ok (.ireturn, 1) := by decide +kernel
theorem dX7_readsStack_77 : decode cX7_readsStack 77 = .ok (.aload_n 1, 1) := by decide +kernel
theorem dX7_readsStack_78 : decode cX7_readsStack 78 = .ok (.lload_n 2, 1) := by decide +kernel
theorem dX7_readsStack_79 : decode cX7_readsStack 79 = .ok (.iload 4, 2) := by decide +kernel
theorem dX7_readsStack_81 : decode cX7_readsStack 81 = .ok (.aload_n 0, 1) := by decide +kernel
theorem dX7_readsStack_82 : decode cX7_readsStack 82 = .ok (.getfield 140, 3) := by decide +kernel
theorem dX7_readsStack_85 : decode cX7_readsStack 85 = .ok (.invokevirtual 143, 3) := by decide +kernel
theorem dX7_readsStack_88 : decode cX7_readsStack 88 = .ok (.aload_n 0, 1) := by decide +kernel
theorem dX7_readsStack_89 : decode cX7_readsStack 89 = .ok (.invokevirtual 30, 3) := by decide +kernel
theorem dX7_readsStack_92 : decode cX7_readsStack 92 = .ok (.iconst 1, 1) := by decide +kernel
theorem dX7_readsStack_93 : decode cX7_readsStack 93 = .ok (.ireturn, 1) := by decide +kernel
set_option maxRecDepth 20000 in
theorem ggX7_readsUnsure_X7_advance : GoodIn wsX7_readsUnsure wsX7_advance := goodIn_r _ [7, 8, 9, 10, 11, 12, 2, 1, 13, 14, 15, 16, 17, 18, 19, 20, 21, 6, 22, 23, 24, 25, 26, 27, 28, 29, 30, 31, 32, 33, 34, 137, 138, 139, 140, 141, 142, 143, 144, 145, 146, 161, 162] (by decide +kernel) (by decide +kernel)
set_option maxRecDepth 20000 in
theorem gX7_readsUnsure_X7_advance : GoodIn wsX7_readsUnsure (wsV RX7 30 RX7 yX7_advance wsX7_advance) := goodIn_app (goodIn_of _ (by decide +kernel)) ggX7_readsUnsure_X7_advance
set_option maxRecDepth 20000 in
theorem ggX7_readsUnsure_X7_stackOfName : GoodIn wsX7_readsUnsure wsX7_stackOfName := goodIn_r _ [38, 12, 39, 40, 41, 6, 42, 1, 13, 43, 44, 45, 46, 47, 48, 49, 27, 50, 51, 52, 53, 54, 55, 56, 57, 58, 59, 60, 61, 62, 63, 64, 65, 66, 67, 68, 69, 70, 71, 72, 73, 74, 75, 76, 77, 78, 79, 80, 81, 82, 83, 84, 85, 86, 87, 88, 89, 90, 91, 92, 93, 94, 95, 96, 97, 98, 99, 100, 101, 102, 103, 104, 105, 106, 107, 108, 109, 110, 137, 138, 139, 140, 141, 142, 143, 144, 145, 146, 147, 148, 149, 150, 151, 152, 153, 154, 155, 156, 157, 158, 159, 160, 163, 164, 165] (by decide +kernel) (by decide +kernel)
set_option maxRecDepth 20000 in
theorem gX7_readsUnsure_X7_stackOfName : GoodIn wsX7_readsUnsure (wsV RX7 147 RX7 yX7_stackOfName wsX7_stackOfName) := goodIn_app (goodIn_of _ (by decide +kernel)) ggX7_readsUnsure_X7_stackOfName
set_option maxRecDepth 20000 in
theorem ggX7_readsUnsure_X4_isUnsure : GoodIn wsX7_readsUnsure wsX4_isUnsure := goodIn_r _ [114, 115, 116, 117, 118, 119, 120, 147, 148, 149, 150, 151, 152, 153, 154, 155, 156, 157, 158, 159, 160] (by decide +kernel) (by decide +kernel)
set_option maxRecDepth 20000 in
theorem gX7_readsUnsure_X4_isUnsure : GoodIn wsX7_readsUnsure (wsV RX7 151 RX4 yX4_isUnsure wsX4_isUnsure) := goodIn_app (goodIn_of _ (by decide +kernel)) ggX7_readsUnsure_X4_isUnsure
set_option maxRecDepth 20000 in
theorem ggX7_readsUnsure_X7_fails : GoodIn wsX7_readsUnsure wsX7_fails := goodIn_r _ [102, 103, 137, 138, 139, 140, 141, 142, 143, 144, 145, 146] (by decide +kernel) (by decide +kernel)
set_option maxRecDepth 20000 in
theorem gX7_readsUnsure_X7_fails : GoodIn wsX7_readsUnsure (wsV RX7 54 RX7 yX7_fails wsX7_fails) := goodIn_app (goodIn_of _ (by decide +kernel)) ggX7_readsUnsure_X7_fails
set_option maxRecDepth 20000 in
theorem ggX7_readsUnsure_X9_steps : GoodIn wsX7_readsUnsure wsX9_steps := goodIn_r _ [125, 126, 118, 119, 120, 163, 164, 165] (by decide +kernel) (by decide +kernel)
set_option maxRecDepth 20000 in
theorem gX7_readsUnsure_X9_steps : GoodIn wsX7_readsUnsure (wsV RX7 154 RX9 yX9_steps wsX9_steps) := goodIn_app (goodIn_of _ (by decide +kernel)) ggX7_readsUnsure_X9_steps
set_option maxRecDepth 20000 in
theorem ggX7_readsUnsure_X7_isWholeWithin : GoodIn wsX7_readsUnsure wsX7_isWholeWithin := goodIn_r _ [130, 1, 2, 99, 100, 101, 6, 102, 103, 137, 138, 139, 140, 141, 142, 143, 144, 145, 146] (by decide +kernel) (by decide +kernel)
set_option maxRecDepth 20000 in
theorem gX7_readsUnsure_X7_isWholeWithin : GoodIn wsX7_readsUnsure (wsV RX7 119 RX7 yX7_isWholeWithin wsX7_isWholeWithin) := goodIn_app (goodIn_of _ (by decide +kernel)) ggX7_readsUnsure_X7_isWholeWithin
set_option maxRecDepth 20000 in
theorem ggX7_readsUnsure_X4_addUnsure : GoodIn wsX7_readsUnsure wsX4_addUnsure := goodIn_r _ [134, 116, 115, 117, 135, 119, 136, 147, 148, 149, 150, 151, 152, 153, 154, 155, 156, 157, 158, 159, 160] (by decide +kernel) (by decide +kernel)
set_option maxRecDepth 20000 in
theorem gX7_readsUnsure_X4_addUnsure : GoodIn wsX7_readsUnsure (wsV RX7 158 RX4 yX4_addUnsure wsX4_addUnsure) := goodIn_app (goodIn_of _ (by decide +kernel)) ggX7_readsUnsure_X4_addUnsure
theorem dX7_readsUnsure_0 : decode cX7_readsUnsure 0 = .ok (.aload_n 0, 1) := by decide +kernel
theorem dX7_readsUnsure_1 : decode cX7_readsUnsure 1 = .ok (.invokevirtual 30, 3) := by decide +kernel
theorem dX7_readsUnsure_4 : decode cX7_readsUnsure 4 = .ok (.aload_n 0, 1) := by decide +kernel
theorem dX7_readsUnsure_5 : decode cX7_readsUnsure 5 = .ok (.aload_n 1, 1) := by decide +kernel
theorem dX7_readsUnsure_6 : decode cX7_readsUnsure 6 = .ok (.invokevirtual 147, 3) := by decide +kernel
theorem dX7_readsUnsure_9 : decode cX7_readsUnsure 9 = .ok (.istore_n 2, 1) := by decide +kernel
theorem dX7_readsUnsure_10 : decode cX7_readsUnsure 10 = .ok (.iload_n 2, 1) := by decide +kernel
theorem dX7_readsUnsure_11 : decode cX7_readsUnsure 11 = .ok (.iconst (-1), 1) := by decide +kernel
theorem dX7_readsUnsure_12 : decode cX7_readsUnsure 12 = .ok (.if_icmp .ne 5, 3) := by decide +kernel
theorem dX7_readsUnsure_15 : decode cX7_readsUnsure 15 = .ok (.iconst 0, 1) := by decide +kernel
theorem dX7_readsUnsure_16 : decode cX7_readsUnsure 16 = .ok (.ireturn, 1) := by decide +kernel
theorem dX7_readsUnsure_17 : decode cX7_readsUnsure 17 = .ok (.aload_n 0, 1) := by decide +kernel
theorem dX7_readsUnsure_18 : decode cX7_readsUnsure 18 = .ok (.invokevirtual 30, 3) := by decide +kernel
theorem dX7_readsUnsure_21 : decode cX7_readsUnsure 21 = .ok (.aload_n 0, 1) := by decide +kernel
theorem dX7_readsUnsure_22 : decode cX7_readsUnsure 22 = .ok (.getfield 42, 3) := by decide +kernel
theorem dX7_readsUnsure_25 : decode cX7_readsUnsure 25 = .ok (.iconst 2, 1) := by decide +kernel
theorem dX7_readsUnsure_26 : decode cX7_readsUnsure 26 = .ok (.if_icmp .ne 21, 3) := by decide +kernel
theorem dX7_readsUnsure_29 : decode cX7_readsUnsure 29 = .ok (.aload_n 1, 1) := by decide +kernel
theorem dX7_readsUnsure_30 : decode cX7_readsUnsure 30 = .ok (.iload_n 2, 1) := by decide +kernel
theorem dX7_readsUnsure_31 : decode cX7_readsUnsure 31 = .ok (.aload_n 0, 1) := by decide +kernel
theorem dX7_readsUnsure_32 : decode cX7_readsUnsure 32 = .ok (.getfield 58, 3) := by decide +kernel
theorem dX7_readsUnsure_35 : decode cX7_readsUnsure 35 = .ok (.invokevirtual 151, 3) := by decide +kernel
theorem dX7_readsUnsure_38 : decode cX7_readsUnsure 38 = .ok (.ifCond .eq 9, 3) := by decide +kernel
theorem dX7_readsUnsure_41 : decode cX7_readsUnsure 41 = .ok (.aload_n 0, 1) := by decide +kernel
theorem dX7_readsUnsure_42 : decode cX7_readsUnsure 42 = .ok (.iconst 3, 1) := by decide +kernel
theorem dX7_readsUnsure_43 : decode cX7_readsUnsure 43 = .ok (.invokevirtual 54, 3) := by decide +kernel
theorem dX7_readsUnsure_46 : decode cX7_readsUnsure 46 = .ok (.ireturn, 1) := by decide +kernel
theorem dX7_readsUnsure_47 : decode cX7_readsUnsure 47 = .ok (.aload_n 0, 1) := by decide +kernel
theorem dX7_readsUnsure_48 : decode cX7_readsUnsure 48 = .ok (.iconst 0, 1) := by decide +kernel
theorem dX7_readsUnsure_49 : decode cX7_readsUnsure 49 = .ok (.aload_n 1, 1) := by decide +kernel
theorem dX7_readsUnsure_50 : decode cX7_readsUnsure 50 = .ok (.getfield 45, 3) := by decide +kernel
theorem dX7_readsUnsure_53 : decode cX7_readsUnsure 53 = .ok (.iload_n 2, 1) := by decide +kernel
theorem dX7_readsUnsure_54 : decode cX7_readsUnsure 54 = .ok (.invokevirtual 154, 3) := by decide +kernel
theorem dX7_readsUnsure_57 : decode cX7_readsUnsure 57 = .ok (.iconst 1, 1) := by decide +kernel
theorem dX7_readsUnsure_58 : decode cX7_readsUnsure 58 = .ok (.isub, 1) := by decide +kernel
theorem dX7_readsUnsure_59 : decode cX7_readsUnsure 59 = .ok (.invokevirtual 119, 3) := by decide +kernel
theorem dX7_readsUnsure_62 : decode cX7_readsUnsure 62 = .ok (.ifCond .ne 5, 3) := by decide +kernel
theorem dX7_readsUnsure_65 : decode cX7_readsUnsure 65 = .ok (.iconst 0, 1) := by decide +kernel
theorem dX7_readsUnsure_66 : decode cX7_readsUnsure 66 = .ok (.ireturn, 1) := by decide +kernel
theorem dX7_readsUnsure_67 : decode cX7_readsUnsure 67 = .ok (.aload_n 1, 1) := by decide +kernel
theorem dX7_readsUnsure_68 : decode cX7_readsUnsure 68 = .ok (.iload_n 2, 1) := by decide +kernel
theorem dX7_readsUnsure_69 : decode cX7_readsUnsure 69 = .ok (.aload_n 0, 1) := by decide +kernel
theorem dX7_readsUnsure_70 : decode cX7_readsUnsure 70 = .ok (.getfield 58, 3) := by decide +kernel
theorem dX7_readsUnsure_73 : decode cX7_readsUnsure 73 = .ok (.invokevirtual 158, 3) := by decide +kernel
theorem dX7_readsUnsure_76 : decode cX7_readsUnsure 76 = .ok (.aload_n 0, 1) := by decide +kernel
theorem dX7_readsUnsure_77 : decode cX7_readsUnsure 77 = .ok (.invokevirtual 30, 3) := by decide +kernel
theorem dX7_readsUnsure_80 : decode cX7_readsUnsure 80 = .ok (.iconst 1, 1) := by decide +kernel
theorem dX7_readsUnsure_81 : decode cX7_readsUnsure 81 = .ok (.ireturn, 1) := by decide +kernel
set_option maxRecDepth 20000 in
theorem ggX7_readsAgreed_X7_advance : GoodIn wsX7_readsAgreed wsX7_advance := goodIn_r _ [7, 8, 9, 10, 11, 12, 2, 1, 13, 14, 15, 16, 17, 18, 19, 20, 21, 6, 22, 23, 24, 25, 26, 27, 28, 29, 30, 31, 32, 33, 34, 132, 133, 134, 135, 136, 137, 138, 139, 140, 141, 142, 143] (by decide +kernel) (by decide +kernel)
set_option maxRecDepth 20000 in
theorem gX7_readsAgreed_X7_advance : GoodIn wsX7_readsAgreed (wsV RX7 30 RX7 yX7_advance wsX7_advance) := goodIn_app (goodIn_of _ (by decide +kernel)) ggX7_readsAgreed_X7_advance
set_option maxRecDepth 20000 in
theorem ggX7_readsAgreed_X7_stackOfName : GoodIn wsX7_readsAgreed wsX7_stackOfName := goodIn_r _ [38, 12, 39, 40, 41, 6, 42, 1, 13, 43, 44, 45, 46, 47, 48, 49, 27, 50, 51, 52, 53, 54, 55, 56, 57, 58, 59, 60, 61, 62, 63, 64, 65, 66, 67, 68, 69, 70, 71, 72, 73, 74, 75, 76, 77, 78, 79, 80, 81, 82, 83, 84, 85, 86, 87, 88, 89, 90, 91, 92, 93, 94, 95, 96, 97, 98, 99, 100, 101, 102, 103, 104, 105, 106, 107, 108, 109, 110, 132, 133, 134, 135, 136, 137, 138, 139, 140, 141, 144, 145, 146, 147, 148, 149, 150, 151, 152, 153, 154, 155, 156, 157, 158, 159, 160] (by decide +kernel) (by decide +kernel)
set_option maxRecDepth 20000 in
theorem gX7_readsAgreed_X7_stackOfName : GoodIn wsX7_readsAgreed (wsV RX7 147 RX7 yX7_stackOfName wsX7_stackOfName) := goodIn_app (goodIn_of _ (by decide +kernel)) ggX7_readsAgreed_X7_stackOfName
set_option maxRecDepth 20000 in
theorem ggX7_readsAgreed_X4_isAgreed : GoodIn wsX7_readsAgreed wsX4_isAgreed := goodIn_r _ [114, 115, 116, 117, 118, 119, 120, 144, 145, 146, 147, 148, 149, 150, 151, 152, 153, 154, 155, 156, 157] (by decide +kernel) (by decide +kernel)
set_option maxRecDepth 20000 in
theorem gX7_readsAgreed_X4_isAgreed : GoodIn wsX7_readsAgreed (wsV RX7 162 RX4 yX4_isAgreed wsX4_isAgreed) := goodIn_app (goodIn_of _ (by decide +kernel)) ggX7_readsAgreed_X4_isAgreed
set_option maxRecDepth 20000 in
theorem ggX7_readsAgreed_X7_fails : GoodIn wsX7_readsAgreed wsX7_fails := goodIn_r _ [102, 103, 132, 133, 134, 135, 136, 137, 138, 139, 140, 141] (by decide +kernel) (by decide +kernel)
set_option maxRecDepth 20000 in
theorem gX7_readsAgreed_X7_fails : GoodIn wsX7_readsAgreed (wsV RX7 54 RX7 yX7_fails wsX7_fails) := goodIn_app (goodIn_of _ (by decide +kernel)) ggX7_readsAgreed_X7_fails
set_option maxRecDepth 20000 in
theorem ggX7_readsAgreed_X7_isWholeWithin : GoodIn wsX7_readsAgreed wsX7_isWholeWithin := goodIn_r _ [124, 1, 2, 99, 100, 101, 6, 102, 103, 132, 133, 134, 135, 136, 137, 138, 139, 140, 141] (by decide +kernel) (by decide +kernel)
set_option maxRecDepth 20000 in
theorem gX7_readsAgreed_X7_isWholeWithin : GoodIn wsX7_readsAgreed (wsV RX7 119 RX7 yX7_isWholeWithin wsX7_isWholeWithin) := goodIn_app (goodIn_of _ (by decide +kernel)) ggX7_readsAgreed_X7_isWholeWithin
set_option maxRecDepth 20000 in
theorem ggX7_readsAgreed_X4_addAgreed : GoodIn wsX7_readsAgreed wsX4_addAgreed := goodIn_r _ [128, 116, 115, 117, 129, 130, 119, 131, 144, 145, 146, 147, 148, 149, 150, 151, 152, 153, 154, 155, 156, 157] (by decide +kernel) (by decide +kernel)
set_option maxRecDepth 20000 in
theorem gX7_readsAgreed_X4_addAgreed : GoodIn wsX7_readsAgreed (wsV RX7 165 RX4 yX4_addAgreed wsX4_addAgreed) := goodIn_app (goodIn_of _ (by decide +kernel)) ggX7_readsAgreed_X4_addAgreed
theorem dX7_readsAgreed_0 : decode cX7_readsAgreed 0 = .ok (.aload_n 0, 1) := by decide +kernel
theorem dX7_readsAgreed_1 : decode cX7_readsAgreed 1 = .ok (.invokevirtual 30, 3) := by decide +kernel
theorem dX7_readsAgreed_4 : decode cX7_readsAgreed 4 = .ok (.aload_n 0, 1) := by decide +kernel
theorem dX7_readsAgreed_5 : decode cX7_readsAgreed 5 = .ok (.aload_n 1, 1) := by decide +kernel
theorem dX7_readsAgreed_6 : decode cX7_readsAgreed 6 = .ok (.invokevirtual 147, 3) := by decide +kernel
theorem dX7_readsAgreed_9 : decode cX7_readsAgreed 9 = .ok (.istore_n 2, 1) := by decide +kernel
theorem dX7_readsAgreed_10 : decode cX7_readsAgreed 10 = .ok (.iload_n 2, 1) := by decide +kernel
theorem dX7_readsAgreed_11 : decode cX7_readsAgreed 11 = .ok (.iconst (-1), 1) := by decide +kernel
theorem dX7_readsAgreed_12 : decode cX7_readsAgreed 12 = .ok (.if_icmp .ne 5, 3) := by decide +kernel
theorem dX7_readsAgreed_15 : decode cX7_readsAgreed 15 = .ok (.iconst 0, 1) := by decide +kernel
theorem dX7_readsAgreed_16 : decode cX7_readsAgreed 16 = .ok (.ireturn, 1) := by decide +kernel
theorem dX7_readsAgreed_17 : decode cX7_readsAgreed 17 = .ok (.aload_n 0, 1) := by decide +kernel
theorem dX7_readsAgreed_18 : decode cX7_readsAgreed 18 = .ok (.invokevirtual 30, 3) := by decide +kernel
theorem dX7_readsAgreed_21 : decode cX7_readsAgreed 21 = .ok (.aload_n 0, 1) := by decide +kernel
theorem dX7_readsAgreed_22 : decode cX7_readsAgreed 22 = .ok (.getfield 42, 3) := by decide +kernel
theorem dX7_readsAgreed_25 : decode cX7_readsAgreed 25 = .ok (.iconst 2, 1) := by decide +kernel
theorem dX7_readsAgreed_26 : decode cX7_readsAgreed 26 = .ok (.if_icmp .ne 21, 3) := by decide +kernel
theorem dX7_readsAgreed_29 : decode cX7_readsAgreed 29 = .ok (.aload_n 1, 1) := by decide +kernel
theorem dX7_readsAgreed_30 : decode cX7_readsAgreed 30 = .ok (.iload_n 2, 1) := by decide +kernel
theorem dX7_readsAgreed_31 : decode cX7_readsAgreed 31 = .ok (.aload_n 0, 1) := by decide +kernel
theorem dX7_readsAgreed_32 : decode cX7_readsAgreed 32 = .ok (.getfield 58, 3) := by decide +kernel
theorem dX7_readsAgreed_35 : decode cX7_readsAgreed 35 = .ok (.invokevirtual 162, 3) := by decide +kernel
theorem dX7_readsAgreed_38 : decode cX7_readsAgreed 38 = .ok (.ifCond .eq 9, 3) := by decide +kernel
theorem dX7_readsAgreed_41 : decode cX7_readsAgreed 41 = .ok (.aload_n 0, 1) := by decide +kernel
theorem dX7_readsAgreed_42 : decode cX7_readsAgreed 42 = .ok (.iconst 3, 1) := by decide +kernel
theorem dX7_readsAgreed_43 : decode cX7_readsAgreed 43 = .ok (.invokevirtual 54, 3) := by decide +kernel
theorem dX7_readsAgreed_46 : decode cX7_readsAgreed 46 = .ok (.ireturn, 1) := by decide +kernel
theorem dX7_readsAgreed_47 : decode cX7_readsAgreed 47 = .ok (.aload_n 0, 1) := by decide +kernel
theorem dX7_readsAgreed_48 : decode cX7_readsAgreed 48 = .ok (.iconst 1, 1) := by decide +kernel
theorem dX7_readsAgreed_49 : decode cX7_readsAgreed 49 = .ok (.bipush 36, 2) := by decide +kernel
theorem dX7_readsAgreed_51 : decode cX7_readsAgreed 51 = .ok (.invokevirtual 119, 3) := by decide +kernel
theorem dX7_readsAgreed_54 : decode cX7_readsAgreed 54 = .ok (.ifCond .ne 5, 3) := by decide +kernel
theorem dX7_readsAgreed_57 : decode cX7_readsAgreed 57 = .ok (.iconst 0, 1) := by decide +kernel
theorem dX7_readsAgreed_58 : decode cX7_readsAgreed 58 = .ok (.ireturn, 1) := by decide +kernel
theorem dX7_readsAgreed_59 : decode cX7_readsAgreed 59 = .ok (.aload_n 0, 1) := by decide +kernel
theorem dX7_readsAgreed_60 : decode cX7_readsAgreed 60 = .ok (.getfield 58, 3) := by decide +kernel
theorem dX7_readsAgreed_63 : decode cX7_readsAgreed 63 = .ok (.istore_n 3, 1) := by decide +kernel
theorem dX7_readsAgreed_64 : decode cX7_readsAgreed 64 = .ok (.aload_n 0, 1) := by decide +kernel
theorem dX7_readsAgreed_65 : decode cX7_readsAgreed 65 = .ok (.invokevirtual 30, 3) := by decide +kernel
theorem dX7_readsAgreed_68 : decode cX7_readsAgreed 68 = .ok (.aload_n 0, 1) := by decide +kernel
theorem dX7_readsAgreed_69 : decode cX7_readsAgreed 69 = .ok (.iconst 0, 1) := by decide +kernel
theorem dX7_readsAgreed_70 : decode cX7_readsAgreed 70 = .ok (.bipush 36, 2) := by decide +kernel
theorem dX7_readsAgreed_72 : decode cX7_readsAgreed 72 = .ok (.invokevirtual 119, 3) := by decide +kernel
theorem dX7_readsAgreed_75 : decode cX7_readsAgreed 75 = .ok (.ifCond .ne 5, 3) := by decide +kernel
theorem dX7_readsAgreed_78 : decode cX7_readsAgreed 78 = .ok (.iconst 0, 1) := by decide +kernel
theorem dX7_readsAgreed_79 : decode cX7_readsAgreed 79 = .ok (.ireturn, 1) := by decide +kernel
theorem dX7_readsAgreed_80 : decode cX7_readsAgreed 80 = .ok (.aload_n 1, 1) := by decide +kernel
theorem dX7_readsAgreed_81 : decode cX7_readsAgreed 81 = .ok (.iload_n 2, 1) := by decide +kernel
theorem dX7_readsAgreed_82 : decode cX7_readsAgreed 82 = .ok (.iload_n 3, 1) := by decide +kernel
theorem dX7_readsAgreed_83 : decode cX7_readsAgreed 83 = .ok (.aload_n 0, 1) := by decide +kernel
theorem dX7_readsAgreed_84 : decode cX7_readsAgreed 84 = .ok (.getfield 58, 3) := by decide +kernel
theorem dX7_readsAgreed_87 : decode cX7_readsAgreed 87 = .ok (.invokevirtual 165, 3) := by decide +kernel
theorem dX7_readsAgreed_90 : decode cX7_readsAgreed 90 = .ok (.aload_n 0, 1) := by decide +kernel
theorem dX7_readsAgreed_91 : decode cX7_readsAgreed 91 = .ok (.invokevirtual 30, 3) := by decide +kernel
theorem dX7_readsAgreed_94 : decode cX7_readsAgreed 94 = .ok (.iconst 1, 1) := by decide +kernel
theorem dX7_readsAgreed_95 : decode cX7_readsAgreed 95 = .ok (.ireturn, 1) := by decide +kernel
set_option maxRecDepth 20000 in
theorem ggX7_stackOfName_X7_isName : GoodIn wsX7_stackOfName wsX7_isName := goodIn_r _ [6, 7, 8, 9, 10, 11, 5, 12, 1, 13, 14, 15, 16, 17, 18, 19, 20, 21, 22, 23, 24, 25, 26, 27, 28, 29, 30, 31, 32, 33, 34, 35, 36, 37, 38, 39, 40, 41, 42, 43, 44, 45, 46, 47, 48, 49, 50, 51, 52, 53, 54, 55, 56, 57, 58, 59, 60, 61, 62, 63, 64, 65, 78, 79, 80, 81, 82, 83, 84, 85, 86, 87] (by decide +kernel) (by decide +kernel)
set_option maxRecDepth 20000 in
theorem gX7_stackOfName_X7_isName : GoodIn wsX7_stackOfName (wsV RX7 125 RX7 yX7_isName wsX7_isName) := goodIn_app (goodIn_of _ (by decide +kernel)) ggX7_stackOfName_X7_isName
set_option maxRecDepth 20000 in
theorem ggX7_stackOfName_X7_fails : GoodIn wsX7_stackOfName wsX7_fails := goodIn_r _ [69, 70, 78, 79, 80, 81, 82, 83, 84, 85, 86, 87] (by decide +kernel) (by decide +kernel)
set_option maxRecDepth 20000 in
theorem gX7_stackOfName_X7_fails : GoodIn wsX7_stackOfName (wsV RX7 54 RX7 yX7_fails wsX7_fails) := goodIn_app (goodIn_of _ (by decide +kernel)) ggX7_stackOfName_X7_fails
set_option maxRecDepth 20000 in
theorem ggX7_stackOfName_X4_stackNamed : GoodIn wsX7_stackOfName wsX4_stackNamed := goodIn_r _ [75, 76, 77, 88, 89, 90, 91, 92, 93, 94, 95, 96, 97, 98, 99, 100, 101, 102, 103, 104] (by decide +kernel) (by decide +kernel)
set_option maxRecDepth 20000 in
theorem gX7_stackOfName_X4_stackNamed : GoodIn wsX7_stackOfName (wsV RX7 132 RX4 yX4_stackNamed wsX4_stackNamed) := goodIn_app (goodIn_of _ (by decide +kernel)) ggX7_stackOfName_X4_stackNamed
theorem dX7_stackOfName_0 : decode cX7_stackOfName 0 = .ok (.aload_n 0, 1) := by decide +kernel
theorem dX7_stackOfName_1 : decode cX7_stackOfName 1 = .ok (.invokevirtual 125, 3) := by decide +kernel
theorem dX7_stackOfName_4 : decode cX7_stackOfName 4 = .ok (.ifCond .ne 11, 3) := by decide +kernel
theorem dX7_stackOfName_7 : decode cX7_stackOfName 7 = .ok (.aload_n 0, 1) := by decide +kernel
theorem dX7_stackOfName_8 : decode cX7_stackOfName 8 = .ok (.iconst 1, 1) := by decide +kernel
theorem dX7_stackOfName_9 : decode cX7_stackOfName 9 = .ok (.invokevirtual 54, 3) := by decide +kernel
theorem dX7_stackOfName_12 : decode cX7_stackOfName 12 = .ok (.pop, 1) := by decide +kernel
theorem dX7_stackOfName_13 : decode cX7_stackOfName 13 = .ok (.iconst (-1), 1) := by decide +kernel
theorem dX7_stackOfName_14 : decode cX7_stackOfName 14 = .ok (.ireturn, 1) := by decide +kernel
theorem dX7_stackOfName_15 : decode cX7_stackOfName 15 = .ok (.aload_n 1, 1) := by decide +kernel
theorem dX7_stackOfName_16 : decode cX7_stackOfName 16 = .ok (.aload_n 0, 1) := by decide +kernel
theorem dX7_stackOfName_17 : decode cX7_stackOfName 17 = .ok (.getfield 128, 3) := by decide +kernel
theorem dX7_stackOfName_20 : decode cX7_stackOfName 20 = .ok (.invokevirtual 132, 3) := by decide +kernel
theorem dX7_stackOfName_23 : decode cX7_stackOfName 23 = .ok (.istore_n 2, 1) := by decide +kernel
theorem dX7_stackOfName_24 : decode cX7_stackOfName 24 = .ok (.iload_n 2, 1) := by decide +kernel
theorem dX7_stackOfName_25 : decode cX7_stackOfName 25 = .ok (.iconst (-1), 1) := by decide +kernel
theorem dX7_stackOfName_26 : decode cX7_stackOfName 26 = .ok (.if_icmp .ne 9, 3) := by decide +kernel
theorem dX7_stackOfName_29 : decode cX7_stackOfName 29 = .ok (.aload_n 0, 1) := by decide +kernel
theorem dX7_stackOfName_30 : decode cX7_stackOfName 30 = .ok (.iconst 2, 1) := by decide +kernel
theorem dX7_stackOfName_31 : decode cX7_stackOfName 31 = .ok (.invokevirtual 54, 3) := by decide +kernel
theorem dX7_stackOfName_34 : decode cX7_stackOfName 34 = .ok (.pop, 1) := by decide +kernel
theorem dX7_stackOfName_35 : decode cX7_stackOfName 35 = .ok (.iload_n 2, 1) := by decide +kernel
theorem dX7_stackOfName_36 : decode cX7_stackOfName 36 = .ok (.ireturn, 1) := by decide +kernel
set_option maxRecDepth 20000 in
theorem ggX7_isName_X7_isWord : GoodIn wsX7_isName wsX7_isWord := goodIn_r _ [7, 1, 8, 9, 10, 6, 11, 12, 13, 14, 15, 16, 17, 18, 19, 20, 21, 22, 23, 24, 25, 26, 27, 28, 29, 30, 31, 32, 33, 34, 35, 36, 37, 38, 39, 40, 41, 42, 43, 44, 45, 46, 47, 48, 49, 50, 51, 52, 53, 54, 55, 56, 57, 58, 59, 60, 61, 62, 63, 64, 65, 66, 67, 68, 69, 70, 71] (by decide +kernel) (by decide +kernel)
set_option maxRecDepth 20000 in
theorem gX7_isName_X7_isWord : GoodIn wsX7_isName (wsV RX7 63 RX7 yX7_isWord wsX7_isWord) := goodIn_app (goodIn_of _ (by decide +kernel)) ggX7_isName_X7_isWord
theorem dX7_isName_0 : decode cX7_isName 0 = .ok (.aload_n 0, 1) := by decide +kernel
theorem dX7_isName_1 : decode cX7_isName 1 = .ok (.ldc 61, 2) := by decide +kernel
theorem dX7_isName_3 : decode cX7_isName 3 = .ok (.invokevirtual 63, 3) := by decide +kernel
theorem dX7_isName_6 : decode cX7_isName 6 = .ok (.ifCond .ne 30, 3) := by decide +kernel
theorem dX7_isName_9 : decode cX7_isName 9 = .ok (.aload_n 0, 1) := by decide +kernel
theorem dX7_isName_10 : decode cX7_isName 10 = .ok (.ldc 71, 2) := by decide +kernel
theorem dX7_isName_12 : decode cX7_isName 12 = .ok (.invokevirtual 63, 3) := by decide +kernel
theorem dX7_isName_15 : decode cX7_isName 15 = .ok (.ifCond .ne 21, 3) := by decide +kernel
theorem dX7_isName_18 : decode cX7_isName 18 = .ok (.aload_n 0, 1) := by decide +kernel
theorem dX7_isName_19 : decode cX7_isName 19 = .ok (.ldc 73, 2) := by decide +kernel
theorem dX7_isName_21 : decode cX7_isName 21 = .ok (.invokevirtual 63, 3) := by decide +kernel
theorem dX7_isName_24 : decode cX7_isName 24 = .ok (.ifCond .ne 12, 3) := by decide +kernel
theorem dX7_isName_27 : decode cX7_isName 27 = .ok (.aload_n 0, 1) := by decide +kernel
theorem dX7_isName_28 : decode cX7_isName 28 = .ok (.ldc 75, 2) := by decide +kernel
theorem dX7_isName_30 : decode cX7_isName 30 = .ok (.invokevirtual 63, 3) := by decide +kernel
theorem dX7_isName_33 : decode cX7_isName 33 = .ok (.ifCond .eq 7, 3) := by decide +kernel
theorem dX7_isName_36 : decode cX7_isName 36 = .ok (.iconst 1, 1) := by decide +kernel
theorem dX7_isName_37 : decode cX7_isName 37 = .ok (.goto 4, 3) := by decide +kernel
theorem dX7_isName_40 : decode cX7_isName 40 = .ok (.iconst 0, 1) := by decide +kernel
theorem dX7_isName_41 : decode cX7_isName 41 = .ok (.istore_n 1, 1) := by decide +kernel
theorem dX7_isName_42 : decode cX7_isName 42 = .ok (.aload_n 0, 1) := by decide +kernel
theorem dX7_isName_43 : decode cX7_isName 43 = .ok (.getfield 42, 3) := by decide +kernel
theorem dX7_isName_46 : decode cX7_isName 46 = .ok (.iconst 1, 1) := by decide +kernel
theorem dX7_isName_47 : decode cX7_isName 47 = .ok (.if_icmp .ne 20, 3) := by decide +kernel
theorem dX7_isName_50 : decode cX7_isName 50 = .ok (.aload_n 0, 1) := by decide +kernel
theorem dX7_isName_51 : decode cX7_isName 51 = .ok (.getfield 140, 3) := by decide +kernel
theorem dX7_isName_54 : decode cX7_isName 54 = .ok (.bipush 8, 2) := by decide +kernel
theorem dX7_isName_56 : decode cX7_isName 56 = .ok (.if_icmp .gt 11, 3) := by decide +kernel
theorem dX7_isName_59 : decode cX7_isName 59 = .ok (.iload_n 1, 1) := by decide +kernel
theorem dX7_isName_60 : decode cX7_isName 60 = .ok (.ifCond .ne 7, 3) := by decide +kernel
theorem dX7_isName_63 : decode cX7_isName 63 = .ok (.iconst 1, 1) := by decide +kernel
theorem dX7_isName_64 : decode cX7_isName 64 = .ok (.goto 4, 3) := by decide +kernel
theorem dX7_isName_67 : decode cX7_isName 67 = .ok (.iconst 0, 1) := by decide +kernel
theorem dX7_isName_68 : decode cX7_isName 68 = .ok (.ireturn, 1) := by decide +kernel
set_option maxRecDepth 20000 in
theorem ggX7_isWord_X7_codeOf : GoodIn wsX7_isWord wsX7_codeOf := goodIn_r _ [6, 7, 8, 9, 10, 11, 12, 13, 14, 15, 16, 17, 18, 19, 20, 21, 22, 23, 24, 25, 26, 27, 28, 29, 30, 31, 32, 33, 34, 35, 36, 37, 38, 39, 40, 41, 42, 43, 44, 45, 46, 47, 48, 49, 50, 51, 52, 53, 54, 55, 56] (by decide +kernel) (by decide +kernel)
set_option maxRecDepth 20000 in
theorem gX7_isWord_X7_codeOf : GoodIn wsX7_isWord (va_wsS RX7 169 yX7_codeOf wsX7_codeOf) := goodIn_app (goodIn_of _ (by decide +kernel)) ggX7_isWord_X7_codeOf
theorem dX7_isWord_0 : decode cX7_isWord 0 = .ok (.aload_n 0, 1) := by decide +kernel
theorem dX7_isWord_1 : decode cX7_isWord 1 = .ok (.getfield 42, 3) := by decide +kernel
theorem dX7_isWord_4 : decode cX7_isWord 4 = .ok (.iconst 1, 1) := by decide +kernel
theorem dX7_isWord_5 : decode cX7_isWord 5 = .ok (.if_icmp .ne 19, 3) := by decide +kernel
theorem dX7_isWord_8 : decode cX7_isWord 8 = .ok (.aload_n 0, 1) := by decide +kernel
theorem dX7_isWord_9 : decode cX7_isWord 9 = .ok (.getfield 128, 3) := by decide +kernel
theorem dX7_isWord_12 : decode cX7_isWord 12 = .ok (.aload_n 1, 1) := by decide +kernel
theorem dX7_isWord_13 : decode cX7_isWord 13 = .ok (.invokestatic 169, 3) := by decide +kernel
theorem dX7_isWord_16 : decode cX7_isWord 16 = .ok (.lcmp, 1) := by decide +kernel
theorem dX7_isWord_17 : decode cX7_isWord 17 = .ok (.ifCond .ne 7, 3) := by decide +kernel
theorem dX7_isWord_20 : decode cX7_isWord 20 = .ok (.iconst 1, 1) := by decide +kernel
theorem dX7_isWord_21 : decode cX7_isWord 21 = .ok (.goto 4, 3) := by decide +kernel
theorem dX7_isWord_24 : decode cX7_isWord 24 = .ok (.iconst 0, 1) := by decide +kernel
theorem dX7_isWord_25 : decode cX7_isWord 25 = .ok (.ireturn, 1) := by decide +kernel
set_option maxRecDepth 20000 in
theorem ggX7_isWholeWithin_X7_fails : GoodIn wsX7_isWholeWithin wsX7_fails := goodIn_r _ [7, 8, 9, 10, 11, 12, 13, 14, 15, 16, 17, 18] (by decide +kernel) (by decide +kernel)
set_option maxRecDepth 20000 in
theorem gX7_isWholeWithin_X7_fails : GoodIn wsX7_isWholeWithin (wsV RX7 54 RX7 yX7_fails wsX7_fails) := goodIn_app (goodIn_of _ (by decide +kernel)) ggX7_isWholeWithin_X7_fails
theorem dX7_isWholeWithin_0 : decode cX7_isWholeWithin 0 = .ok (.aload_n 0, 1) := by decide +kernel
theorem dX7_isWholeWithin_1 : decode cX7_isWholeWithin 1 = .ok (.getfield 42, 3) := by decide +kernel
theorem dX7_isWholeWithin_4 : decode cX7_isWholeWithin 4 = .ok (.iconst 2, 1) := by decide +kernel
theorem dX7_isWholeWithin_5 : decode cX7_isWholeWithin 5 = .ok (.if_icmp .eq 9, 3) := by decide +kernel
theorem dX7_isWholeWithin_8 : decode cX7_isWholeWithin 8 = .ok (.aload_n 0, 1) := by decide +kernel
theorem dX7_isWholeWithin_9 : decode cX7_isWholeWithin 9 = .ok (.iconst 1, 1) := by decide +kernel
theorem dX7_isWholeWithin_10 : decode cX7_isWholeWithin 10 = .ok (.invokevirtual 54, 3) := by decide +kernel
theorem dX7_isWholeWithin_13 : decode cX7_isWholeWithin 13 = .ok (.ireturn, 1) := by decide +kernel
theorem dX7_isWholeWithin_14 : decode cX7_isWholeWithin 14 = .ok (.aload_n 0, 1) := by decide +kernel
theorem dX7_isWholeWithin_15 : decode cX7_isWholeWithin 15 = .ok (.getfield 58, 3) := by decide +kernel
theorem dX7_isWholeWithin_18 : decode cX7_isWholeWithin 18 = .ok (.iload_n 1, 1) := by decide +kernel
theorem dX7_isWholeWithin_19 : decode cX7_isWholeWithin 19 = .ok (.if_icmp .lt 11, 3) := by decide +kernel
theorem dX7_isWholeWithin_22 : decode cX7_isWholeWithin 22 = .ok (.aload_n 0, 1) := by decide +kernel
theorem dX7_isWholeWithin_23 : decode cX7_isWholeWithin 23 = .ok (.getfield 58, 3) := by decide +kernel
theorem dX7_isWholeWithin_26 : decode cX7_isWholeWithin 26 = .ok (.iload_n 2, 1) := by decide +kernel
theorem dX7_isWholeWithin_27 : decode cX7_isWholeWithin 27 = .ok (.if_icmp .le 11, 3) := by decide +kernel
theorem dX7_isWholeWithin_30 : decode cX7_isWholeWithin 30 = .ok (.aload_n 0, 1) := by decide +kernel
theorem dX7_isWholeWithin_31 : decode cX7_isWholeWithin 31 = .ok (.iconst 4, 1) := by decide +kernel
theorem dX7_isWholeWithin_32 : decode cX7_isWholeWithin 32 = .ok (.invokevirtual 54, 3) := by decide +kernel
theorem dX7_isWholeWithin_35 : decode cX7_isWholeWithin 35 = .ok (.ifCond .eq 7, 3) := by decide +kernel
theorem dX7_isWholeWithin_38 : decode cX7_isWholeWithin 38 = .ok (.iconst 1, 1) := by decide +kernel
theorem dX7_isWholeWithin_39 : decode cX7_isWholeWithin 39 = .ok (.goto 4, 3) := by decide +kernel
theorem dX7_isWholeWithin_42 : decode cX7_isWholeWithin 42 = .ok (.iconst 0, 1) := by decide +kernel
theorem dX7_isWholeWithin_43 : decode cX7_isWholeWithin 43 = .ok (.ireturn, 1) := by decide +kernel
set_option maxRecDepth 20000 in
theorem ggX7_takesWord_X7_isWord : GoodIn wsX7_takesWord wsX7_isWord := goodIn_r _ [5, 6, 7, 8, 9, 4, 10, 11, 12, 13, 14, 15, 16, 17, 18, 19, 20, 21, 22, 23, 24, 25, 26, 27, 28, 29, 30, 31, 32, 33, 34, 35, 36, 37, 38, 39, 40, 41, 42, 43, 44, 45, 46, 47, 48, 49, 50, 51, 52, 53, 54, 55, 56, 57, 58, 59, 60, 96, 97, 98, 99, 100, 101, 102, 103, 104, 105] (by decide +kernel) (by decide +kernel)
set_option maxRecDepth 20000 in
theorem gX7_takesWord_X7_isWord : GoodIn wsX7_takesWord (wsV RX7 63 RX7 yX7_isWord wsX7_isWord) := goodIn_app (goodIn_of _ (by decide +kernel)) ggX7_takesWord_X7_isWord
set_option maxRecDepth 20000 in
theorem ggX7_takesWord_X7_fails : GoodIn wsX7_takesWord wsX7_fails := goodIn_r _ [64, 65, 96, 97, 98, 99, 100, 101, 102, 103, 104, 105] (by decide +kernel) (by decide +kernel)
set_option maxRecDepth 20000 in
theorem gX7_takesWord_X7_fails : GoodIn wsX7_takesWord (wsV RX7 54 RX7 yX7_fails wsX7_fails) := goodIn_app (goodIn_of _ (by decide +kernel)) ggX7_takesWord_X7_fails
set_option maxRecDepth 20000 in
theorem ggX7_takesWord_X7_advance : GoodIn wsX7_takesWord wsX7_advance := goodIn_r _ [69, 70, 71, 72, 73, 7, 74, 6, 75, 76, 77, 78, 79, 80, 81, 82, 83, 4, 84, 85, 86, 87, 88, 11, 89, 90, 91, 92, 93, 94, 95, 96, 97, 98, 99, 100, 101, 102, 103, 104, 105, 106, 107] (by decide +kernel) (by decide +kernel)
set_option maxRecDepth 20000 in
theorem gX7_takesWord_X7_advance : GoodIn wsX7_takesWord (wsV RX7 30 RX7 yX7_advance wsX7_advance) := goodIn_app (goodIn_of _ (by decide +kernel)) ggX7_takesWord_X7_advance
theorem dX7_takesWord_0 : decode cX7_takesWord 0 = .ok (.aload_n 0, 1) := by decide +kernel
theorem dX7_takesWord_1 : decode cX7_takesWord 1 = .ok (.aload_n 1, 1) := by decide +kernel
theorem dX7_takesWord_2 : decode cX7_takesWord 2 = .ok (.invokevirtual 63, 3) := by decide +kernel
theorem dX7_takesWord_5 : decode cX7_takesWord 5 = .ok (.ifCond .ne 9, 3) := by decide +kernel
theorem dX7_takesWord_8 : decode cX7_takesWord 8 = .ok (.aload_n 0, 1) := by decide +kernel
theorem dX7_takesWord_9 : decode cX7_takesWord 9 = .ok (.iconst 1, 1) := by decide +kernel
theorem dX7_takesWord_10 : decode cX7_takesWord 10 = .ok (.invokevirtual 54, 3) := by decide +kernel
theorem dX7_takesWord_13 : decode cX7_takesWord 13 = .ok (.ireturn, 1) := by decide +kernel
theorem dX7_takesWord_14 : decode cX7_takesWord 14 = .ok (.aload_n 0, 1) := by decide +kernel
theorem dX7_takesWord_15 : decode cX7_takesWord 15 = .ok (.invokevirtual 30, 3) := by decide +kernel
theorem dX7_takesWord_18 : decode cX7_takesWord 18 = .ok (.iconst 1, 1) := by decide +kernel
theorem dX7_takesWord_19 : decode cX7_takesWord 19 = .ok (.ireturn, 1) := by decide +kernel
set_option maxRecDepth 20000 in
theorem ggX7_takesNumber_X7_advance : GoodIn wsX7_takesNumber wsX7_advance := goodIn_r _ [8, 9, 10, 11, 12, 13, 2, 1, 14, 15, 16, 17, 18, 19, 20, 21, 22, 7, 23, 24, 25, 26, 27, 28, 29, 30, 31, 32, 33, 34, 35, 45, 46, 47, 48, 49, 50, 51, 52, 53, 54, 55, 56] (by decide +kernel) (by decide +kernel)
set_option maxRecDepth 20000 in
theorem gX7_takesNumber_X7_advance : GoodIn wsX7_takesNumber (wsV RX7 30 RX7 yX7_advance wsX7_advance) := goodIn_app (goodIn_of _ (by decide +kernel)) ggX7_takesNumber_X7_advance
set_option maxRecDepth 20000 in
theorem ggX7_takesNumber_X7_isWholeWithin : GoodIn wsX7_takesNumber wsX7_isWholeWithin := goodIn_r _ [39, 1, 2, 40, 41, 42, 7, 43, 44, 45, 46, 47, 48, 49, 50, 51, 52, 53, 54] (by decide +kernel) (by decide +kernel)
set_option maxRecDepth 20000 in
theorem gX7_takesNumber_X7_isWholeWithin : GoodIn wsX7_takesNumber (wsV RX7 119 RX7 yX7_isWholeWithin wsX7_isWholeWithin) := goodIn_app (goodIn_of _ (by decide +kernel)) ggX7_takesNumber_X7_isWholeWithin
theorem dX7_takesNumber_0 : decode cX7_takesNumber 0 = .ok (.aload_n 0, 1) := by decide +kernel
theorem dX7_takesNumber_1 : decode cX7_takesNumber 1 = .ok (.getfield 42, 3) := by decide +kernel
theorem dX7_takesNumber_4 : decode cX7_takesNumber 4 = .ok (.iconst 3, 1) := by decide +kernel
theorem dX7_takesNumber_5 : decode cX7_takesNumber 5 = .ok (.if_icmp .ne 16, 3) := by decide +kernel
theorem dX7_takesNumber_8 : decode cX7_takesNumber 8 = .ok (.aload_n 0, 1) := by decide +kernel
theorem dX7_takesNumber_9 : decode cX7_takesNumber 9 = .ok (.getfield 58, 3) := by decide +kernel
theorem dX7_takesNumber_12 : decode cX7_takesNumber 12 = .ok (.bipush 45, 2) := by decide +kernel
theorem dX7_takesNumber_14 : decode cX7_takesNumber 14 = .ok (.if_icmp .ne 7, 3) := by decide +kernel
theorem dX7_takesNumber_17 : decode cX7_takesNumber 17 = .ok (.iconst 1, 1) := by decide +kernel
theorem dX7_takesNumber_18 : decode cX7_takesNumber 18 = .ok (.goto 4, 3) := by decide +kernel
theorem dX7_takesNumber_21 : decode cX7_takesNumber 21 = .ok (.iconst 0, 1) := by decide +kernel
theorem dX7_takesNumber_22 : decode cX7_takesNumber 22 = .ok (.istore_n 1, 1) := by decide +kernel
theorem dX7_takesNumber_23 : decode cX7_takesNumber 23 = .ok (.iload_n 1, 1) := by decide +kernel
theorem dX7_takesNumber_24 : decode cX7_takesNumber 24 = .ok (.ifCond .eq 7, 3) := by decide +kernel
theorem dX7_takesNumber_27 : decode cX7_takesNumber 27 = .ok (.aload_n 0, 1) := by decide +kernel
theorem dX7_takesNumber_28 : decode cX7_takesNumber 28 = .ok (.invokevirtual 30, 3) := by decide +kernel
theorem dX7_takesNumber_31 : decode cX7_takesNumber 31 = .ok (.aload_n 0, 1) := by decide +kernel
theorem dX7_takesNumber_32 : decode cX7_takesNumber 32 = .ok (.iconst 0, 1) := by decide +kernel
theorem dX7_takesNumber_33 : decode cX7_takesNumber 33 = .ok (.bipush 99, 2) := by decide +kernel
theorem dX7_takesNumber_35 : decode cX7_takesNumber 35 = .ok (.invokevirtual 119, 3) := by decide +kernel
theorem dX7_takesNumber_38 : decode cX7_takesNumber 38 = .ok (.ifCond .ne 5, 3) := by decide +kernel
theorem dX7_takesNumber_41 : decode cX7_takesNumber 41 = .ok (.iconst 0, 1) := by decide +kernel
theorem dX7_takesNumber_42 : decode cX7_takesNumber 42 = .ok (.ireturn, 1) := by decide +kernel
theorem dX7_takesNumber_43 : decode cX7_takesNumber 43 = .ok (.aload_n 0, 1) := by decide +kernel
theorem dX7_takesNumber_44 : decode cX7_takesNumber 44 = .ok (.iload_n 1, 1) := by decide +kernel
theorem dX7_takesNumber_45 : decode cX7_takesNumber 45 = .ok (.ifCond .eq 11, 3) := by decide +kernel
theorem dX7_takesNumber_48 : decode cX7_takesNumber 48 = .ok (.aload_n 0, 1) := by decide +kernel
theorem dX7_takesNumber_49 : decode cX7_takesNumber 49 = .ok (.getfield 58, 3) := by decide +kernel
theorem dX7_takesNumber_52 : decode cX7_takesNumber 52 = .ok (.ineg, 1) := by decide +kernel
theorem dX7_takesNumber_53 : decode cX7_takesNumber 53 = .ok (.goto 7, 3) := by decide +kernel
theorem dX7_takesNumber_56 : decode cX7_takesNumber 56 = .ok (.aload_n 0, 1) := by decide +kernel
theorem dX7_takesNumber_57 : decode cX7_takesNumber 57 = .ok (.getfield 58, 3) := by decide +kernel
theorem dX7_takesNumber_60 : decode cX7_takesNumber 60 = .ok (.putfield 104, 3) := by decide +kernel
theorem dX7_takesNumber_63 : decode cX7_takesNumber 63 = .ok (.aload_n 0, 1) := by decide +kernel
theorem dX7_takesNumber_64 : decode cX7_takesNumber 64 = .ok (.invokevirtual 30, 3) := by decide +kernel
theorem dX7_takesNumber_67 : decode cX7_takesNumber 67 = .ok (.iconst 1, 1) := by decide +kernel
theorem dX7_takesNumber_68 : decode cX7_takesNumber 68 = .ok (.ireturn, 1) := by decide +kernel
set_option maxRecDepth 20000 in
theorem ggX7_rowOfWord_X10_byteAt : GoodIn wsX7_rowOfWord wsX10_byteAt := goodIn_r _ [8, 9, 20, 21] (by decide +kernel) (by decide +kernel)
set_option maxRecDepth 20000 in
theorem gX7_rowOfWord_X10_byteAt : GoodIn wsX7_rowOfWord (wsV RX7 176 RX10 yX10_byteAt wsX10_byteAt) := goodIn_app (goodIn_of _ (by decide +kernel)) ggX7_rowOfWord_X10_byteAt
theorem dX7_rowOfWord_0 : decode cX7_rowOfWord 0 = .ok (.aload_n 0, 1) := by decide +kernel
theorem dX7_rowOfWord_1 : decode cX7_rowOfWord 1 = .ok (.getfield 140, 3) := by decide +kernel
theorem dX7_rowOfWord_4 : decode cX7_rowOfWord 4 = .ok (.iconst 2, 1) := by decide +kernel
theorem dX7_rowOfWord_5 : decode cX7_rowOfWord 5 = .ok (.if_icmp .lt 12, 3) := by decide +kernel
theorem dX7_rowOfWord_8 : decode cX7_rowOfWord 8 = .ok (.aload_n 0, 1) := by decide +kernel
theorem dX7_rowOfWord_9 : decode cX7_rowOfWord 9 = .ok (.getfield 140, 3) := by decide +kernel
theorem dX7_rowOfWord_12 : decode cX7_rowOfWord 12 = .ok (.bipush 12, 2) := by decide +kernel
theorem dX7_rowOfWord_14 : decode cX7_rowOfWord 14 = .ok (.if_icmp .le 5, 3) := by decide +kernel
theorem dX7_rowOfWord_17 : decode cX7_rowOfWord 17 = .ok (.iconst (-1), 1) := by decide +kernel
theorem dX7_rowOfWord_18 : decode cX7_rowOfWord 18 = .ok (.ireturn, 1) := by decide +kernel
theorem dX7_rowOfWord_19 : decode cX7_rowOfWord 19 = .ok (.iconst 0, 1) := by decide +kernel
theorem dX7_rowOfWord_20 : decode cX7_rowOfWord 20 = .ok (.istore_n 1, 1) := by decide +kernel
theorem dX7_rowOfWord_21 : decode cX7_rowOfWord 21 = .ok (.iconst 0, 1) := by decide +kernel
theorem dX7_rowOfWord_22 : decode cX7_rowOfWord 22 = .ok (.istore_n 2, 1) := by decide +kernel
theorem dX7_rowOfWord_23 : decode cX7_rowOfWord 23 = .ok (.iload_n 2, 1) := by decide +kernel
theorem dX7_rowOfWord_24 : decode cX7_rowOfWord 24 = .ok (.aload_n 0, 1) := by decide +kernel
theorem dX7_rowOfWord_25 : decode cX7_rowOfWord 25 = .ok (.getfield 140, 3) := by decide +kernel
theorem dX7_rowOfWord_28 : decode cX7_rowOfWord 28 = .ok (.if_icmp .ge 53, 3) := by decide +kernel
theorem dX7_rowOfWord_31 : decode cX7_rowOfWord 31 = .ok (.aload_n 0, 1) := by decide +kernel
theorem dX7_rowOfWord_32 : decode cX7_rowOfWord 32 = .ok (.getfield 9, 3) := by decide +kernel
theorem dX7_rowOfWord_35 : decode cX7_rowOfWord 35 = .ok (.aload_n 0, 1) := by decide +kernel
theorem dX7_rowOfWord_36 : decode cX7_rowOfWord 36 = .ok (.getfield 173, 3) := by decide +kernel
theorem dX7_rowOfWord_39 : decode cX7_rowOfWord 39 = .ok (.iload_n 2, 1) := by decide +kernel
theorem dX7_rowOfWord_40 : decode cX7_rowOfWord 40 = .ok (.iadd, 1) := by decide +kernel
theorem dX7_rowOfWord_41 : decode cX7_rowOfWord 41 = .ok (.invokevirtual 176, 3) := by decide +kernel
theorem dX7_rowOfWord_44 : decode cX7_rowOfWord 44 = .ok (.istore_n 3, 1) := by decide +kernel
theorem dX7_rowOfWord_45 : decode cX7_rowOfWord 45 = .ok (.iload_n 3, 1) := by decide +kernel
theorem dX7_rowOfWord_46 : decode cX7_rowOfWord 46 = .ok (.bipush 117, 2) := by decide +kernel
theorem dX7_rowOfWord_48 : decode cX7_rowOfWord 48 = .ok (.if_icmp .eq 11, 3) := by decide +kernel
theorem dX7_rowOfWord_51 : decode cX7_rowOfWord 51 = .ok (.iload_n 3, 1) := by decide +kernel
theorem dX7_rowOfWord_52 : decode cX7_rowOfWord 52 = .ok (.bipush 100, 2) := by decide +kernel
theorem dX7_rowOfWord_54 : decode cX7_rowOfWord 54 = .ok (.if_icmp .eq 5, 3) := by decide +kernel
theorem dX7_rowOfWord_57 : decode cX7_rowOfWord 57 = .ok (.iconst (-1), 1) := by decide +kernel
theorem dX7_rowOfWord_58 : decode cX7_rowOfWord 58 = .ok (.ireturn, 1) := by decide +kernel
theorem dX7_rowOfWord_59 : decode cX7_rowOfWord 59 = .ok (.iload_n 1, 1) := by decide +kernel
theorem dX7_rowOfWord_60 : decode cX7_rowOfWord 60 = .ok (.iconst 2, 1) := by decide +kernel
theorem dX7_rowOfWord_61 : decode cX7_rowOfWord 61 = .ok (.imul, 1) := by decide +kernel
theorem dX7_rowOfWord_62 : decode cX7_rowOfWord 62 = .ok (.iload_n 3, 1) := by decide +kernel
theorem dX7_rowOfWord_63 : decode cX7_rowOfWord 63 = .ok (.bipush 117, 2) := by decide +kernel
theorem dX7_rowOfWord_65 : decode cX7_rowOfWord 65 = .ok (.if_icmp .ne 7, 3) := by decide +kernel
theorem dX7_rowOfWord_68 : decode cX7_rowOfWord 68 = .ok (.iconst 1, 1) := by decide +kernel
theorem dX7_rowOfWord_69 : decode cX7_rowOfWord 69 = .ok (.goto 4, 3) := by decide +kernel
theorem dX7_rowOfWord_72 : decode cX7_rowOfWord 72 = .ok (.iconst 0, 1) := by decide +kernel
theorem dX7_rowOfWord_73 : decode cX7_rowOfWord 73 = .ok (.iadd, 1) := by decide +kernel
theorem dX7_rowOfWord_74 : decode cX7_rowOfWord 74 = .ok (.istore_n 1, 1) := by decide +kernel
theorem dX7_rowOfWord_75 : decode cX7_rowOfWord 75 = .ok (.iinc 2 1, 3) := by decide +kernel
theorem dX7_rowOfWord_78 : decode cX7_rowOfWord 78 = .ok (.goto (-55), 3) := by decide +kernel
theorem dX7_rowOfWord_81 : decode cX7_rowOfWord 81 = .ok (.iload_n 1, 1) := by decide +kernel
theorem dX7_rowOfWord_82 : decode cX7_rowOfWord 82 = .ok (.ireturn, 1) := by decide +kernel
set_option maxRecDepth 20000 in
theorem ggX7_advance_X10_byteAt : GoodIn wsX7_advance wsX10_byteAt := goodIn_r _ [13, 14, 41, 42] (by decide +kernel) (by decide +kernel)
set_option maxRecDepth 20000 in
theorem gX7_advance_X10_byteAt : GoodIn wsX7_advance (wsV RX7 176 RX10 yX10_byteAt wsX10_byteAt) := goodIn_app (goodIn_of _ (by decide +kernel)) ggX7_advance_X10_byteAt
set_option maxRecDepth 20000 in
theorem ggX7_advance_X7_isLetter : GoodIn wsX7_advance wsX7_isLetter := goodIn_r _ [18] (by decide +kernel) (by decide +kernel)
set_option maxRecDepth 20000 in
theorem gX7_advance_X7_isLetter : GoodIn wsX7_advance (va_wsS RX7 179 yX7_isLetter wsX7_isLetter) := goodIn_app (goodIn_of _ (by decide +kernel)) ggX7_advance_X7_isLetter
set_option maxRecDepth 20000 in
theorem ggX7_advance_X7_advanceWord : GoodIn wsX7_advance wsX7_advanceWord := goodIn_r _ [22, 3, 1, 2, 5, 23, 4, 7, 9, 10, 11, 12, 13, 14, 15, 16, 17, 18, 31, 32, 33, 34, 35, 36, 37, 38, 39, 40, 41, 42] (by decide +kernel) (by decide +kernel)
set_option maxRecDepth 20000 in
theorem gX7_advance_X7_advanceWord : GoodIn wsX7_advance (wsV RX7 182 RX7 yX7_advanceWord wsX7_advanceWord) := goodIn_app (goodIn_of _ (by decide +kernel)) ggX7_advance_X7_advanceWord
set_option maxRecDepth 20000 in
theorem ggX7_advance_X7_isDigit : GoodIn wsX7_advance wsX7_isDigit := goodIn_r _ [26] (by decide +kernel) (by decide +kernel)
set_option maxRecDepth 20000 in
theorem gX7_advance_X7_isDigit : GoodIn wsX7_advance (va_wsS RX7 185 yX7_isDigit wsX7_isDigit) := goodIn_app (goodIn_of _ (by decide +kernel)) ggX7_advance_X7_isDigit
set_option maxRecDepth 20000 in
theorem ggX7_advance_X7_advanceWhole : GoodIn wsX7_advance wsX7_advanceWhole := goodIn_r _ [30, 3, 1, 2, 6, 4, 7, 9, 10, 11, 12, 13, 14, 24, 25, 17, 26, 31, 32, 33, 34, 35, 36, 37, 38, 39, 40, 41, 42] (by decide +kernel) (by decide +kernel)
set_option maxRecDepth 20000 in
theorem gX7_advance_X7_advanceWhole : GoodIn wsX7_advance (wsV RX7 188 RX7 yX7_advanceWhole wsX7_advanceWhole) := goodIn_app (goodIn_of _ (by decide +kernel)) ggX7_advance_X7_advanceWhole
theorem dX7_advance_0 : decode cX7_advance 0 = .ok (.aload_n 0, 1) := by decide +kernel
theorem dX7_advance_1 : decode cX7_advance 1 = .ok (.getfield 27, 3) := by decide +kernel
theorem dX7_advance_4 : decode cX7_advance 4 = .ok (.aload_n 0, 1) := by decide +kernel
theorem dX7_advance_5 : decode cX7_advance 5 = .ok (.getfield 24, 3) := by decide +kernel
theorem dX7_advance_8 : decode cX7_advance 8 = .ok (.if_icmp .ge 32, 3) := by decide +kernel
theorem dX7_advance_11 : decode cX7_advance 11 = .ok (.aload_n 0, 1) := by decide +kernel
theorem dX7_advance_12 : decode cX7_advance 12 = .ok (.getfield 9, 3) := by decide +kernel
theorem dX7_advance_15 : decode cX7_advance 15 = .ok (.aload_n 0, 1) := by decide +kernel
theorem dX7_advance_16 : decode cX7_advance 16 = .ok (.getfield 27, 3) := by decide +kernel
theorem dX7_advance_19 : decode cX7_advance 19 = .ok (.invokevirtual 176, 3) := by decide +kernel
theorem dX7_advance_22 : decode cX7_advance 22 = .ok (.bipush 32, 2) := by decide +kernel
theorem dX7_advance_24 : decode cX7_advance 24 = .ok (.if_icmp .ne 16, 3) := by decide +kernel
theorem dX7_advance_27 : decode cX7_advance 27 = .ok (.aload_n 0, 1) := by decide +kernel
theorem dX7_advance_28 : decode cX7_advance 28 = .ok (.dup, 1) := by decide +kernel
theorem dX7_advance_29 : decode cX7_advance 29 = .ok (.getfield 27, 3) := by decide +kernel
theorem dX7_advance_32 : decode cX7_advance 32 = .ok (.iconst 1, 1) := by decide +kernel
theorem dX7_advance_33 : decode cX7_advance 33 = .ok (.iadd, 1) := by decide +kernel
theorem dX7_advance_34 : decode cX7_advance 34 = .ok (.putfield 27, 3) := by decide +kernel
theorem dX7_advance_37 : decode cX7_advance 37 = .ok (.goto (-37), 3) := by decide +kernel
theorem dX7_advance_40 : decode cX7_advance 40 = .ok (.aload_n 0, 1) := by decide +kernel
theorem dX7_advance_41 : decode cX7_advance 41 = .ok (.aload_n 0, 1) := by decide +kernel
theorem dX7_advance_42 : decode cX7_advance 42 = .ok (.getfield 27, 3) := by decide +kernel
theorem dX7_advance_45 : decode cX7_advance 45 = .ok (.putfield 173, 3) := by decide +kernel
theorem dX7_advance_48 : decode cX7_advance 48 = .ok (.aload_n 0, 1) := by decide +kernel
theorem dX7_advance_49 : decode cX7_advance 49 = .ok (.lconst 0, 1) := by decide +kernel
theorem dX7_advance_50 : decode cX7_advance 50 = .ok (.putfield 128, 3) := by decide +kernel
theorem dX7_advance_53 : decode cX7_advance 53 = .ok (.aload_n 0, 1) := by decide +kernel
theorem dX7_advance_54 : decode cX7_advance 54 = .ok (.iconst 0, 1) := by decide +kernel
theorem dX7_advance_55 : decode cX7_advance 55 = .ok (.putfield 58, 3) := by decide +kernel
theorem dX7_advance_58 : decode cX7_advance 58 = .ok (.aload_n 0, 1) := by decide +kernel
theorem dX7_advance_59 : decode cX7_advance 59 = .ok (.getfield 27, 3) := by decide +kernel
theorem dX7_advance_62 : decode cX7_advance 62 = .ok (.aload_n 0, 1) := by decide +kernel
theorem dX7_advance_63 : decode cX7_advance 63 = .ok (.getfield 24, 3) := by decide +kernel
theorem dX7_advance_66 : decode cX7_advance 66 = .ok (.if_icmp .lt 11, 3) := by decide +kernel
theorem dX7_advance_69 : decode cX7_advance 69 = .ok (.aload_n 0, 1) := by decide +kernel
theorem dX7_advance_70 : decode cX7_advance 70 = .ok (.iconst 0, 1) := by decide +kernel
theorem dX7_advance_71 : decode cX7_advance 71 = .ok (.putfield 42, 3) := by decide +kernel
theorem dX7_advance_74 : decode cX7_advance 74 = .ok (.goto 103, 3) := by decide +kernel
theorem dX7_advance_77 : decode cX7_advance 77 = .ok (.aload_n 0, 1) := by decide +kernel
theorem dX7_advance_78 : decode cX7_advance 78 = .ok (.getfield 9, 3) := by decide +kernel
theorem dX7_advance_81 : decode cX7_advance 81 = .ok (.aload_n 0, 1) := by decide +kernel
theorem dX7_advance_82 : decode cX7_advance 82 = .ok (.getfield 27, 3) := by decide +kernel
theorem dX7_advance_85 : decode cX7_advance 85 = .ok (.invokevirtual 176, 3) := by decide +kernel
theorem dX7_advance_88 : decode cX7_advance 88 = .ok (.invokestatic 179, 3) := by decide +kernel
theorem dX7_advance_91 : decode cX7_advance 91 = .ok (.ifCond .eq 10, 3) := by decide +kernel
theorem dX7_advance_94 : decode cX7_advance 94 = .ok (.aload_n 0, 1) := by decide +kernel
theorem dX7_advance_95 : decode cX7_advance 95 = .ok (.invokevirtual 182, 3) := by decide +kernel
theorem dX7_advance_98 : decode cX7_advance 98 = .ok (.goto 79, 3) := by decide +kernel
theorem dX7_advance_101 : decode cX7_advance 101 = .ok (.aload_n 0, 1) := by decide +kernel
theorem dX7_advance_102 : decode cX7_advance 102 = .ok (.getfield 9, 3) := by decide +kernel
theorem dX7_advance_105 : decode cX7_advance 105 = .ok (.aload_n 0, 1) := by decide +kernel
theorem dX7_advance_106 : decode cX7_advance 106 = .ok (.getfield 27, 3) := by decide +kernel
theorem dX7_advance_109 : decode cX7_advance 109 = .ok (.invokevirtual 176, 3) := by decide +kernel
theorem dX7_advance_112 : decode cX7_advance 112 = .ok (.invokestatic 185, 3) := by decide +kernel
theorem dX7_advance_115 : decode cX7_advance 115 = .ok (.ifCond .eq 10, 3) := by decide +kernel
theorem dX7_advance_118 : decode cX7_advance 118 = .ok (.aload_n 0, 1) := by decide +kernel
theorem dX7_advance_119 : decode cX7_advance 119 = .ok (.invokevirtual 188, 3) := by decide +kernel
theorem dX7_advance_122 : decode cX7_advance 122 = .ok (.goto 55, 3) := by decide +kernel
theorem dX7_advance_125 : decode cX7_advance 125 = .ok (.aload_n 0, 1) := by decide +kernel
theorem dX7_advance_126 : decode cX7_advance 126 = .ok (.aload_n 0, 1) := by decide +kernel
theorem dX7_advance_127 : decode cX7_advance 127 = .ok (.getfield 9, 3) := by decide +kernel
theorem dX7_advance_130 : decode cX7_advance 130 = .ok (.aload_n 0, 1) := by decide +kernel
theorem dX7_advance_131 : decode cX7_advance 131 = .ok (.getfield 27, 3) := by decide +kernel
theorem dX7_advance_134 : decode cX7_advance 134 = .ok (.invokevirtual 176, 3) := by decide +kernel
theorem dX7_advance_137 : decode cX7_advance 137 = .ok (.putfield 58, 3) := by decide +kernel
theorem dX7_advance_140 : decode cX7_advance 140 = .ok (.aload_n 0, 1) := by decide +kernel
theorem dX7_advance_141 : decode cX7_advance 141 = .ok (.aload_n 0, 1) := by decide +kernel
theorem dX7_advance_142 : decode cX7_advance 142 = .ok (.getfield 58, 3) := by decide +kernel
theorem dX7_advance_145 : decode cX7_advance 145 = .ok (.bipush 59, 2) := by decide +kernel
theorem dX7_advance_147 : decode cX7_advance 147 = .ok (.if_icmp .eq 12, 3) := by decide +kernel
theorem dX7_advance_150 : decode cX7_advance 150 = .ok (.aload_n 0, 1) := by decide +kernel
theorem dX7_advance_151 : decode cX7_advance 151 = .ok (.getfield 58, 3) := by decide +kernel
theorem dX7_advance_154 : decode cX7_advance 154 = .ok (.bipush 45, 2) := by decide +kernel
theorem dX7_advance_156 : decode cX7_advance 156 = .ok (.if_icmp .ne 7, 3) := by decide +kernel
theorem dX7_advance_159 : decode cX7_advance 159 = .ok (.iconst 3, 1) := by decide +kernel
theorem dX7_advance_160 : decode cX7_advance 160 = .ok (.goto 4, 3) := by decide +kernel
theorem dX7_advance_163 : decode cX7_advance 163 = .ok (.iconst 4, 1) := by decide +kernel
theorem dX7_advance_164 : decode cX7_advance 164 = .ok (.putfield 42, 3) := by decide +kernel
theorem dX7_advance_167 : decode cX7_advance 167 = .ok (.aload_n 0, 1) := by decide +kernel
theorem dX7_advance_168 : decode cX7_advance 168 = .ok (.dup, 1) := by decide +kernel
theorem dX7_advance_169 : decode cX7_advance 169 = .ok (.getfield 27, 3) := by decide +kernel
theorem dX7_advance_172 : decode cX7_advance 172 = .ok (.iconst 1, 1) := by decide +kernel
theorem dX7_advance_173 : decode cX7_advance 173 = .ok (.iadd, 1) := by decide +kernel
theorem dX7_advance_174 : decode cX7_advance 174 = .ok (.putfield 27, 3) := by decide +kernel
theorem dX7_advance_177 : decode cX7_advance 177 = .ok (.aload_n 0, 1) := by decide +kernel
theorem dX7_advance_178 : decode cX7_advance 178 = .ok (.aload_n 0, 1) := by decide +kernel
theorem dX7_advance_179 : decode cX7_advance 179 = .ok (.getfield 27, 3) := by decide +kernel
theorem dX7_advance_182 : decode cX7_advance 182 = .ok (.aload_n 0, 1) := by decide +kernel
theorem dX7_advance_183 : decode cX7_advance 183 = .ok (.getfield 173, 3) := by decide +kernel
theorem dX7_advance_186 : decode cX7_advance 186 = .ok (.isub, 1) := by decide +kernel
theorem dX7_advance_187 : decode cX7_advance 187 = .ok (.putfield 140, 3) := by decide +kernel
theorem dX7_advance_190 : decode cX7_advance 190 = .ok (.return_, 1) := by decide +kernel
set_option maxRecDepth 20000 in
theorem ggX7_advanceWord_X10_byteAt : GoodIn wsX7_advanceWord wsX10_byteAt := goodIn_r _ [12, 13, 28, 29] (by decide +kernel) (by decide +kernel)
set_option maxRecDepth 20000 in
theorem gX7_advanceWord_X10_byteAt : GoodIn wsX7_advanceWord (wsV RX7 176 RX10 yX10_byteAt wsX10_byteAt) := goodIn_app (goodIn_of _ (by decide +kernel)) ggX7_advanceWord_X10_byteAt
set_option maxRecDepth 20000 in
theorem ggX7_advanceWord_X7_isLetter : GoodIn wsX7_advanceWord wsX7_isLetter := goodIn_r _ [17] (by decide +kernel) (by decide +kernel)
set_option maxRecDepth 20000 in
theorem gX7_advanceWord_X7_isLetter : GoodIn wsX7_advanceWord (va_wsS RX7 179 yX7_isLetter wsX7_isLetter) := goodIn_app (goodIn_of _ (by decide +kernel)) ggX7_advanceWord_X7_isLetter
theorem dX7_advanceWord_0 : decode cX7_advanceWord 0 = .ok (.aload_n 0, 1) := by decide +kernel
theorem dX7_advanceWord_1 : decode cX7_advanceWord 1 = .ok (.getfield 9, 3) := by decide +kernel
theorem dX7_advanceWord_4 : decode cX7_advanceWord 4 = .ok (.aload_n 0, 1) := by decide +kernel
theorem dX7_advanceWord_5 : decode cX7_advanceWord 5 = .ok (.getfield 27, 3) := by decide +kernel
theorem dX7_advanceWord_8 : decode cX7_advanceWord 8 = .ok (.invokevirtual 176, 3) := by decide +kernel
theorem dX7_advanceWord_11 : decode cX7_advanceWord 11 = .ok (.istore_n 1, 1) := by decide +kernel
theorem dX7_advanceWord_12 : decode cX7_advanceWord 12 = .ok (.aload_n 0, 1) := by decide +kernel
theorem dX7_advanceWord_13 : decode cX7_advanceWord 13 = .ok (.getfield 27, 3) := by decide +kernel
theorem dX7_advanceWord_16 : decode cX7_advanceWord 16 = .ok (.aload_n 0, 1) := by decide +kernel
theorem dX7_advanceWord_17 : decode cX7_advanceWord 17 = .ok (.getfield 24, 3) := by decide +kernel
theorem dX7_advanceWord_20 : decode cX7_advanceWord 20 = .ok (.if_icmp .ge 55, 3) := by decide +kernel
theorem dX7_advanceWord_23 : decode cX7_advanceWord 23 = .ok (.iload_n 1, 1) := by decide +kernel
theorem dX7_advanceWord_24 : decode cX7_advanceWord 24 = .ok (.invokestatic 179, 3) := by decide +kernel
theorem dX7_advanceWord_27 : decode cX7_advanceWord 27 = .ok (.ifCond .eq 48, 3) := by decide +kernel
theorem dX7_advanceWord_30 : decode cX7_advanceWord 30 = .ok (.aload_n 0, 1) := by decide +kernel
theorem dX7_advanceWord_31 : decode cX7_advanceWord 31 = .ok (.aload_n 0, 1) := by decide +kernel
theorem dX7_advanceWord_32 : decode cX7_advanceWord 32 = .ok (.getfield 128, 3) := by decide +kernel
theorem dX7_advanceWord_35 : decode cX7_advanceWord 35 = .ok (.ldc2_w 191, 3) := by decide +kernel
theorem dX7_advanceWord_38 : decode cX7_advanceWord 38 = .ok (.lmul, 1) := by decide +kernel
theorem dX7_advanceWord_39 : decode cX7_advanceWord 39 = .ok (.iload_n 1, 1) := by decide +kernel
theorem dX7_advanceWord_40 : decode cX7_advanceWord 40 = .ok (.bipush 97, 2) := by decide +kernel
theorem dX7_advanceWord_42 : decode cX7_advanceWord 42 = .ok (.isub, 1) := by decide +kernel
theorem dX7_advanceWord_43 : decode cX7_advanceWord 43 = .ok (.iconst 1, 1) := by decide +kernel
theorem dX7_advanceWord_44 : decode cX7_advanceWord 44 = .ok (.iadd, 1) := by decide +kernel
theorem dX7_advanceWord_45 : decode cX7_advanceWord 45 = .ok (.i2l, 1) := by decide +kernel
theorem dX7_advanceWord_46 : decode cX7_advanceWord 46 = .ok (.ladd, 1) := by decide +kernel
theorem dX7_advanceWord_47 : decode cX7_advanceWord 47 = .ok (.putfield 128, 3) := by decide +kernel
theorem dX7_advanceWord_50 : decode cX7_advanceWord 50 = .ok (.aload_n 0, 1) := by decide +kernel
theorem dX7_advanceWord_51 : decode cX7_advanceWord 51 = .ok (.dup, 1) := by decide +kernel
theorem dX7_advanceWord_52 : decode cX7_advanceWord 52 = .ok (.getfield 27, 3) := by decide +kernel
theorem dX7_advanceWord_55 : decode cX7_advanceWord 55 = .ok (.iconst 1, 1) := by decide +kernel
theorem dX7_advanceWord_56 : decode cX7_advanceWord 56 = .ok (.iadd, 1) := by decide +kernel
theorem dX7_advanceWord_57 : decode cX7_advanceWord 57 = .ok (.putfield 27, 3) := by decide +kernel
theorem dX7_advanceWord_60 : decode cX7_advanceWord 60 = .ok (.aload_n 0, 1) := by decide +kernel
theorem dX7_advanceWord_61 : decode cX7_advanceWord 61 = .ok (.getfield 9, 3) := by decide +kernel
theorem dX7_advanceWord_64 : decode cX7_advanceWord 64 = .ok (.aload_n 0, 1) := by decide +kernel
theorem dX7_advanceWord_65 : decode cX7_advanceWord 65 = .ok (.getfield 27, 3) := by decide +kernel
theorem dX7_advanceWord_68 : decode cX7_advanceWord 68 = .ok (.invokevirtual 176, 3) := by decide +kernel
theorem dX7_advanceWord_71 : decode cX7_advanceWord 71 = .ok (.istore_n 1, 1) := by decide +kernel
theorem dX7_advanceWord_72 : decode cX7_advanceWord 72 = .ok (.goto (-60), 3) := by decide +kernel
theorem dX7_advanceWord_75 : decode cX7_advanceWord 75 = .ok (.aload_n 0, 1) := by decide +kernel
theorem dX7_advanceWord_76 : decode cX7_advanceWord 76 = .ok (.aload_n 0, 1) := by decide +kernel
theorem dX7_advanceWord_77 : decode cX7_advanceWord 77 = .ok (.getfield 27, 3) := by decide +kernel
theorem dX7_advanceWord_80 : decode cX7_advanceWord 80 = .ok (.aload_n 0, 1) := by decide +kernel
theorem dX7_advanceWord_81 : decode cX7_advanceWord 81 = .ok (.getfield 173, 3) := by decide +kernel
theorem dX7_advanceWord_84 : decode cX7_advanceWord 84 = .ok (.isub, 1) := by decide +kernel
theorem dX7_advanceWord_85 : decode cX7_advanceWord 85 = .ok (.bipush 12, 2) := by decide +kernel
theorem dX7_advanceWord_87 : decode cX7_advanceWord 87 = .ok (.if_icmp .gt 7, 3) := by decide +kernel
theorem dX7_advanceWord_90 : decode cX7_advanceWord 90 = .ok (.iconst 1, 1) := by decide +kernel
theorem dX7_advanceWord_91 : decode cX7_advanceWord 91 = .ok (.goto 4, 3) := by decide +kernel
theorem dX7_advanceWord_94 : decode cX7_advanceWord 94 = .ok (.iconst 4, 1) := by decide +kernel
theorem dX7_advanceWord_95 : decode cX7_advanceWord 95 = .ok (.putfield 42, 3) := by decide +kernel
theorem dX7_advanceWord_98 : decode cX7_advanceWord 98 = .ok (.return_, 1) := by decide +kernel
set_option maxRecDepth 20000 in
theorem ggX7_advanceWhole_X10_byteAt : GoodIn wsX7_advanceWhole wsX10_byteAt := goodIn_r _ [11, 12, 27, 28] (by decide +kernel) (by decide +kernel)
set_option maxRecDepth 20000 in
theorem gX7_advanceWhole_X10_byteAt : GoodIn wsX7_advanceWhole (wsV RX7 176 RX10 yX10_byteAt wsX10_byteAt) := goodIn_app (goodIn_of _ (by decide +kernel)) ggX7_advanceWhole_X10_byteAt
set_option maxRecDepth 20000 in
theorem ggX7_advanceWhole_X7_isDigit : GoodIn wsX7_advanceWhole wsX7_isDigit := goodIn_r _ [16] (by decide +kernel) (by decide +kernel)
set_option maxRecDepth 20000 in
theorem gX7_advanceWhole_X7_isDigit : GoodIn wsX7_advanceWhole (va_wsS RX7 185 yX7_isDigit wsX7_isDigit) := goodIn_app (goodIn_of _ (by decide +kernel)) ggX7_advanceWhole_X7_isDigit
theorem dX7_advanceWhole_0 : decode cX7_advanceWhole 0 = .ok (.aload_n 0, 1) := by decide +kernel
theorem dX7_advanceWhole_1 : decode cX7_advanceWhole 1 = .ok (.getfield 9, 3) := by decide +kernel
theorem dX7_advanceWhole_4 : decode cX7_advanceWhole 4 = .ok (.aload_n 0, 1) := by decide +kernel
theorem dX7_advanceWhole_5 : decode cX7_advanceWhole 5 = .ok (.getfield 27, 3) := by decide +kernel
theorem dX7_advanceWhole_8 : decode cX7_advanceWhole 8 = .ok (.invokevirtual 176, 3) := by decide +kernel
theorem dX7_advanceWhole_11 : decode cX7_advanceWhole 11 = .ok (.istore_n 1, 1) := by decide +kernel
theorem dX7_advanceWhole_12 : decode cX7_advanceWhole 12 = .ok (.aload_n 0, 1) := by decide +kernel
theorem dX7_advanceWhole_13 : decode cX7_advanceWhole 13 = .ok (.getfield 27, 3) := by decide +kernel
theorem dX7_advanceWhole_16 : decode cX7_advanceWhole 16 = .ok (.aload_n 0, 1) := by decide +kernel
theorem dX7_advanceWhole_17 : decode cX7_advanceWhole 17 = .ok (.getfield 24, 3) := by decide +kernel
theorem dX7_advanceWhole_20 : decode cX7_advanceWhole 20 = .ok (.if_icmp .ge 51, 3) := by decide +kernel
theorem dX7_advanceWhole_23 : decode cX7_advanceWhole 23 = .ok (.iload_n 1, 1) := by decide +kernel
theorem dX7_advanceWhole_24 : decode cX7_advanceWhole 24 = .ok (.invokestatic 185, 3) := by decide +kernel
theorem dX7_advanceWhole_27 : decode cX7_advanceWhole 27 = .ok (.ifCond .eq 44, 3) := by decide +kernel
theorem dX7_advanceWhole_30 : decode cX7_advanceWhole 30 = .ok (.aload_n 0, 1) := by decide +kernel
theorem dX7_advanceWhole_31 : decode cX7_advanceWhole 31 = .ok (.aload_n 0, 1) := by decide +kernel
theorem dX7_advanceWhole_32 : decode cX7_advanceWhole 32 = .ok (.getfield 58, 3) := by decide +kernel
theorem dX7_advanceWhole_35 : decode cX7_advanceWhole 35 = .ok (.bipush 10, 2) := by decide +kernel
theorem dX7_advanceWhole_37 : decode cX7_advanceWhole 37 = .ok (.imul, 1) := by decide +kernel
theorem dX7_advanceWhole_38 : decode cX7_advanceWhole 38 = .ok (.iload_n 1, 1) := by decide +kernel
theorem dX7_advanceWhole_39 : decode cX7_advanceWhole 39 = .ok (.bipush 48, 2) := by decide +kernel
theorem dX7_advanceWhole_41 : decode cX7_advanceWhole 41 = .ok (.isub, 1) := by decide +kernel
theorem dX7_advanceWhole_42 : decode cX7_advanceWhole 42 = .ok (.iadd, 1) := by decide +kernel
theorem dX7_advanceWhole_43 : decode cX7_advanceWhole 43 = .ok (.putfield 58, 3) := by decide +kernel
theorem dX7_advanceWhole_46 : decode cX7_advanceWhole 46 = .ok (.aload_n 0, 1) := by decide +kernel
theorem dX7_advanceWhole_47 : decode cX7_advanceWhole 47 = .ok (.dup, 1) := by decide +kernel
theorem dX7_advanceWhole_48 : decode cX7_advanceWhole 48 = .ok (.getfield 27, 3) := by decide +kernel
theorem dX7_advanceWhole_51 : decode cX7_advanceWhole 51 = .ok (.iconst 1, 1) := by decide +kernel
theorem dX7_advanceWhole_52 : decode cX7_advanceWhole 52 = .ok (.iadd, 1) := by decide +kernel
theorem dX7_advanceWhole_53 : decode cX7_advanceWhole 53 = .ok (.putfield 27, 3) := by decide +kernel
theorem dX7_advanceWhole_56 : decode cX7_advanceWhole 56 = .ok (.aload_n 0, 1) := by decide +kernel
theorem dX7_advanceWhole_57 : decode cX7_advanceWhole 57 = .ok (.getfield 9, 3) := by decide +kernel
theorem dX7_advanceWhole_60 : decode cX7_advanceWhole 60 = .ok (.aload_n 0, 1) := by decide +kernel
theorem dX7_advanceWhole_61 : decode cX7_advanceWhole 61 = .ok (.getfield 27, 3) := by decide +kernel
theorem dX7_advanceWhole_64 : decode cX7_advanceWhole 64 = .ok (.invokevirtual 176, 3) := by decide +kernel
theorem dX7_advanceWhole_67 : decode cX7_advanceWhole 67 = .ok (.istore_n 1, 1) := by decide +kernel
theorem dX7_advanceWhole_68 : decode cX7_advanceWhole 68 = .ok (.goto (-56), 3) := by decide +kernel
theorem dX7_advanceWhole_71 : decode cX7_advanceWhole 71 = .ok (.aload_n 0, 1) := by decide +kernel
theorem dX7_advanceWhole_72 : decode cX7_advanceWhole 72 = .ok (.aload_n 0, 1) := by decide +kernel
theorem dX7_advanceWhole_73 : decode cX7_advanceWhole 73 = .ok (.getfield 27, 3) := by decide +kernel
theorem dX7_advanceWhole_76 : decode cX7_advanceWhole 76 = .ok (.aload_n 0, 1) := by decide +kernel
theorem dX7_advanceWhole_77 : decode cX7_advanceWhole 77 = .ok (.getfield 173, 3) := by decide +kernel
theorem dX7_advanceWhole_80 : decode cX7_advanceWhole 80 = .ok (.isub, 1) := by decide +kernel
theorem dX7_advanceWhole_81 : decode cX7_advanceWhole 81 = .ok (.iconst 3, 1) := by decide +kernel
theorem dX7_advanceWhole_82 : decode cX7_advanceWhole 82 = .ok (.if_icmp .gt 7, 3) := by decide +kernel
theorem dX7_advanceWhole_85 : decode cX7_advanceWhole 85 = .ok (.iconst 2, 1) := by decide +kernel
theorem dX7_advanceWhole_86 : decode cX7_advanceWhole 86 = .ok (.goto 4, 3) := by decide +kernel
theorem dX7_advanceWhole_89 : decode cX7_advanceWhole 89 = .ok (.iconst 4, 1) := by decide +kernel
theorem dX7_advanceWhole_90 : decode cX7_advanceWhole 90 = .ok (.putfield 42, 3) := by decide +kernel
theorem dX7_advanceWhole_93 : decode cX7_advanceWhole 93 = .ok (.return_, 1) := by decide +kernel
theorem dX7_isLetter_0 : decode cX7_isLetter 0 = .ok (.iload_n 0, 1) := by decide +kernel
theorem dX7_isLetter_1 : decode cX7_isLetter 1 = .ok (.bipush 97, 2) := by decide +kernel
theorem dX7_isLetter_3 : decode cX7_isLetter 3 = .ok (.if_icmp .lt 13, 3) := by decide +kernel
theorem dX7_isLetter_6 : decode cX7_isLetter 6 = .ok (.iload_n 0, 1) := by decide +kernel
theorem dX7_isLetter_7 : decode cX7_isLetter 7 = .ok (.bipush 122, 2) := by decide +kernel
theorem dX7_isLetter_9 : decode cX7_isLetter 9 = .ok (.if_icmp .gt 7, 3) := by decide +kernel
theorem dX7_isLetter_12 : decode cX7_isLetter 12 = .ok (.iconst 1, 1) := by decide +kernel
theorem dX7_isLetter_13 : decode cX7_isLetter 13 = .ok (.goto 4, 3) := by decide +kernel
theorem dX7_isLetter_16 : decode cX7_isLetter 16 = .ok (.iconst 0, 1) := by decide +kernel
theorem dX7_isLetter_17 : decode cX7_isLetter 17 = .ok (.ireturn, 1) := by decide +kernel
theorem dX7_isDigit_0 : decode cX7_isDigit 0 = .ok (.iload_n 0, 1) := by decide +kernel
theorem dX7_isDigit_1 : decode cX7_isDigit 1 = .ok (.bipush 48, 2) := by decide +kernel
theorem dX7_isDigit_3 : decode cX7_isDigit 3 = .ok (.if_icmp .lt 13, 3) := by decide +kernel
theorem dX7_isDigit_6 : decode cX7_isDigit 6 = .ok (.iload_n 0, 1) := by decide +kernel
theorem dX7_isDigit_7 : decode cX7_isDigit 7 = .ok (.bipush 57, 2) := by decide +kernel
theorem dX7_isDigit_9 : decode cX7_isDigit 9 = .ok (.if_icmp .gt 7, 3) := by decide +kernel
theorem dX7_isDigit_12 : decode cX7_isDigit 12 = .ok (.iconst 1, 1) := by decide +kernel
theorem dX7_isDigit_13 : decode cX7_isDigit 13 = .ok (.goto 4, 3) := by decide +kernel
theorem dX7_isDigit_16 : decode cX7_isDigit 16 = .ok (.iconst 0, 1) := by decide +kernel
theorem dX7_isDigit_17 : decode cX7_isDigit 17 = .ok (.ireturn, 1) := by decide +kernel
set_option maxRecDepth 20000 in
theorem ggX7_codeOf_J0_length_8abf5 : GoodIn wsX7_codeOf wsJ0_length_8abf5 := goodIn_r _ [6, 7, 8, 9, 10, 5, 11, 12, 13] (by decide +kernel) (by decide +kernel)
set_option maxRecDepth 20000 in
theorem gX7_codeOf_J0_length_8abf5 : GoodIn wsX7_codeOf (wsV RX7 193 RJ0 yJ0_length_8abf5 wsJ0_length_8abf5) := goodIn_app (goodIn_of _ (by decide +kernel)) ggX7_codeOf_J0_length_8abf5
set_option maxRecDepth 20000 in
theorem ggX7_codeOf_J0_charAt_5068e : GoodIn wsX7_codeOf wsJ0_charAt_5068e := goodIn_r _ [17, 7, 18, 19, 20, 5, 21, 12, 13, 22, 23, 24, 25, 26, 27, 28, 29, 30, 31, 32, 33, 34, 35, 36, 37, 38, 39, 40, 41, 42, 43, 44, 45, 46, 47, 48, 49, 50] (by decide +kernel) (by decide +kernel)
set_option maxRecDepth 20000 in
theorem gX7_codeOf_J0_charAt_5068e : GoodIn wsX7_codeOf (wsV RX7 197 RJ0 yJ0_charAt_5068e wsJ0_charAt_5068e) := goodIn_app (goodIn_of _ (by decide +kernel)) ggX7_codeOf_J0_charAt_5068e
theorem dX7_codeOf_0 : decode cX7_codeOf 0 = .ok (.lconst 0, 1) := by decide +kernel
theorem dX7_codeOf_1 : decode cX7_codeOf 1 = .ok (.lstore_n 1, 1) := by decide +kernel
theorem dX7_codeOf_2 : decode cX7_codeOf 2 = .ok (.iconst 0, 1) := by decide +kernel
theorem dX7_codeOf_3 : decode cX7_codeOf 3 = .ok (.istore_n 3, 1) := by decide +kernel
theorem dX7_codeOf_4 : decode cX7_codeOf 4 = .ok (.iload_n 3, 1) := by decide +kernel
theorem dX7_codeOf_5 : decode cX7_codeOf 5 = .ok (.aload_n 0, 1) := by decide +kernel
theorem dX7_codeOf_6 : decode cX7_codeOf 6 = .ok (.invokevirtual 193, 3) := by decide +kernel
theorem dX7_codeOf_9 : decode cX7_codeOf 9 = .ok (.if_icmp .ge 27, 3) := by decide +kernel
theorem dX7_codeOf_12 : decode cX7_codeOf 12 = .ok (.lload_n 1, 1) := by decide +kernel
theorem dX7_codeOf_13 : decode cX7_codeOf 13 = .ok (.ldc2_w 191, 3) := by decide +kernel
theorem dX7_codeOf_16 : decode cX7_codeOf 16 = .ok (.lmul, 1) := by decide +kernel
theorem dX7_codeOf_17 : decode cX7_codeOf 17 = .ok (.aload_n 0, 1) := by decide +kernel
theorem dX7_codeOf_18 : decode cX7_codeOf 18 = .ok (.iload_n 3, 1) := by decide +kernel
theorem dX7_codeOf_19 : decode cX7_codeOf 19 = .ok (.invokevirtual 197, 3) := by decide +kernel
theorem dX7_codeOf_22 : decode cX7_codeOf 22 = .ok (.bipush 97, 2) := by decide +kernel
theorem dX7_codeOf_24 : decode cX7_codeOf 24 = .ok (.isub, 1) := by decide +kernel
theorem dX7_codeOf_25 : decode cX7_codeOf 25 = .ok (.iconst 1, 1) := by decide +kernel
theorem dX7_codeOf_26 : decode cX7_codeOf 26 = .ok (.iadd, 1) := by decide +kernel
theorem dX7_codeOf_27 : decode cX7_codeOf 27 = .ok (.i2l, 1) := by decide +kernel
theorem dX7_codeOf_28 : decode cX7_codeOf 28 = .ok (.ladd, 1) := by decide +kernel
theorem dX7_codeOf_29 : decode cX7_codeOf 29 = .ok (.lstore_n 1, 1) := by decide +kernel
theorem dX7_codeOf_30 : decode cX7_codeOf 30 = .ok (.iinc 3 1, 3) := by decide +kernel
theorem dX7_codeOf_33 : decode cX7_codeOf 33 = .ok (.goto (-29), 3) := by decide +kernel
theorem dX7_codeOf_36 : decode cX7_codeOf 36 = .ok (.lload_n 1, 1) := by decide +kernel
theorem dX7_codeOf_37 : decode cX7_codeOf 37 = .ok (.lreturn, 1) := by decide +kernel
theorem dX8_all_0 : decode cX8_all 0 = .ok (.iconst 1, 1) := by decide +kernel
theorem dX8_all_1 : decode cX8_all 1 = .ok (.iload_n 0, 1) := by decide +kernel
theorem dX8_all_2 : decode cX8_all 2 = .ok (.ishl, 1) := by decide +kernel
theorem dX8_all_3 : decode cX8_all 3 = .ok (.iconst 1, 1) := by decide +kernel
theorem dX8_all_4 : decode cX8_all 4 = .ok (.isub, 1) := by decide +kernel
theorem dX8_all_5 : decode cX8_all 5 = .ok (.ireturn, 1) := by decide +kernel
theorem dX8_bit_0 : decode cX8_bit 0 = .ok (.iconst 1, 1) := by decide +kernel
theorem dX8_bit_1 : decode cX8_bit 1 = .ok (.iload_n 0, 1) := by decide +kernel
theorem dX8_bit_2 : decode cX8_bit 2 = .ok (.iconst 1, 1) := by decide +kernel
theorem dX8_bit_3 : decode cX8_bit 3 = .ok (.isub, 1) := by decide +kernel
theorem dX8_bit_4 : decode cX8_bit 4 = .ok (.iload_n 1, 1) := by decide +kernel
theorem dX8_bit_5 : decode cX8_bit 5 = .ok (.isub, 1) := by decide +kernel
theorem dX8_bit_6 : decode cX8_bit 6 = .ok (.ishl, 1) := by decide +kernel
theorem dX8_bit_7 : decode cX8_bit 7 = .ok (.ireturn, 1) := by decide +kernel
theorem dX8_startsUp_0 : decode cX8_startsUp 0 = .ok (.iload_n 0, 1) := by decide +kernel
theorem dX8_startsUp_1 : decode cX8_startsUp 1 = .ok (.iload_n 1, 1) := by decide +kernel
theorem dX8_startsUp_2 : decode cX8_startsUp 2 = .ok (.iconst 1, 1) := by decide +kernel
theorem dX8_startsUp_3 : decode cX8_startsUp 3 = .ok (.isub, 1) := by decide +kernel
theorem dX8_startsUp_4 : decode cX8_startsUp 4 = .ok (.ishr, 1) := by decide +kernel
theorem dX8_startsUp_5 : decode cX8_startsUp 5 = .ok (.iconst 1, 1) := by decide +kernel
theorem dX8_startsUp_6 : decode cX8_startsUp 6 = .ok (.iand, 1) := by decide +kernel
theorem dX8_startsUp_7 : decode cX8_startsUp 7 = .ok (.ifCond .eq 7, 3) := by decide +kernel
theorem dX8_startsUp_10 : decode cX8_startsUp 10 = .ok (.iconst 1, 1) := by decide +kernel
theorem dX8_startsUp_11 : decode cX8_startsUp 11 = .ok (.goto 4, 3) := by decide +kernel
theorem dX8_startsUp_14 : decode cX8_startsUp 14 = .ok (.iconst 0, 1) := by decide +kernel
theorem dX8_startsUp_15 : decode cX8_startsUp 15 = .ok (.ireturn, 1) := by decide +kernel
theorem dX8_turned_0 : decode cX8_turned 0 = .ok (.iload_n 0, 1) := by decide +kernel
theorem dX8_turned_1 : decode cX8_turned 1 = .ok (.iconst 1, 1) := by decide +kernel
theorem dX8_turned_2 : decode cX8_turned 2 = .ok (.iload_n 1, 1) := by decide +kernel
theorem dX8_turned_3 : decode cX8_turned 3 = .ok (.iconst 1, 1) := by decide +kernel
theorem dX8_turned_4 : decode cX8_turned 4 = .ok (.isub, 1) := by decide +kernel
theorem dX8_turned_5 : decode cX8_turned 5 = .ok (.ishl, 1) := by decide +kernel
theorem dX8_turned_6 : decode cX8_turned 6 = .ok (.iconst 1, 1) := by decide +kernel
theorem dX8_turned_7 : decode cX8_turned 7 = .ok (.isub, 1) := by decide +kernel
theorem dX8_turned_8 : decode cX8_turned 8 = .ok (.iand, 1) := by decide +kernel
theorem dX8_turned_9 : decode cX8_turned 9 = .ok (.istore_n 2, 1) := by decide +kernel
theorem dX8_turned_10 : decode cX8_turned 10 = .ok (.iload_n 2, 1) := by decide +kernel
theorem dX8_turned_11 : decode cX8_turned 11 = .ok (.iconst 1, 1) := by decide +kernel
theorem dX8_turned_12 : decode cX8_turned 12 = .ok (.ishl, 1) := by decide +kernel
theorem dX8_turned_13 : decode cX8_turned 13 = .ok (.iload_n 0, 1) := by decide +kernel
theorem dX8_turned_14 : decode cX8_turned 14 = .ok (.iload_n 1, 1) := by decide +kernel
theorem dX8_turned_15 : decode cX8_turned 15 = .ok (.iconst 1, 1) := by decide +kernel
theorem dX8_turned_16 : decode cX8_turned 16 = .ok (.isub, 1) := by decide +kernel
theorem dX8_turned_17 : decode cX8_turned 17 = .ok (.ishr, 1) := by decide +kernel
theorem dX8_turned_18 : decode cX8_turned 18 = .ok (.ior, 1) := by decide +kernel
theorem dX8_turned_19 : decode cX8_turned 19 = .ok (.ireturn, 1) := by decide +kernel
set_option maxRecDepth 20000 in
theorem ggX8_turnedBy_X8_turned : GoodIn wsX8_turnedBy wsX8_turned := goodIn_r _ [4] (by decide +kernel) (by decide +kernel)
set_option maxRecDepth 20000 in
theorem gX8_turnedBy_X8_turned : GoodIn wsX8_turnedBy (va_wsS RX8 9 yX8_turned wsX8_turned) := goodIn_app (goodIn_of _ (by decide +kernel)) ggX8_turnedBy_X8_turned
theorem dX8_turnedBy_0 : decode cX8_turnedBy 0 = .ok (.iload_n 0, 1) := by decide +kernel
theorem dX8_turnedBy_1 : decode cX8_turnedBy 1 = .ok (.istore_n 3, 1) := by decide +kernel
theorem dX8_turnedBy_2 : decode cX8_turnedBy 2 = .ok (.iconst 0, 1) := by decide +kernel
theorem dX8_turnedBy_3 : decode cX8_turnedBy 3 = .ok (.istore 4, 2) := by decide +kernel
theorem dX8_turnedBy_5 : decode cX8_turnedBy 5 = .ok (.iload 4, 2) := by decide +kernel
theorem dX8_turnedBy_7 : decode cX8_turnedBy 7 = .ok (.iload_n 2, 1) := by decide +kernel
theorem dX8_turnedBy_8 : decode cX8_turnedBy 8 = .ok (.if_icmp .ge 15, 3) := by decide +kernel
theorem dX8_turnedBy_11 : decode cX8_turnedBy 11 = .ok (.iload_n 3, 1) := by decide +kernel
theorem dX8_turnedBy_12 : decode cX8_turnedBy 12 = .ok (.iload_n 1, 1) := by decide +kernel
theorem dX8_turnedBy_13 : decode cX8_turnedBy 13 = .ok (.invokestatic 9, 3) := by decide +kernel
theorem dX8_turnedBy_16 : decode cX8_turnedBy 16 = .ok (.istore_n 3, 1) := by decide +kernel
theorem dX8_turnedBy_17 : decode cX8_turnedBy 17 = .ok (.iinc 4 1, 3) := by decide +kernel
theorem dX8_turnedBy_20 : decode cX8_turnedBy 20 = .ok (.goto (-15), 3) := by decide +kernel
theorem dX8_turnedBy_23 : decode cX8_turnedBy 23 = .ok (.iload_n 3, 1) := by decide +kernel
theorem dX8_turnedBy_24 : decode cX8_turnedBy 24 = .ok (.ireturn, 1) := by decide +kernel
set_option maxRecDepth 20000 in
theorem ggX8_twinned_X8_all : GoodIn wsX8_twinned wsX8_all := goodIn_r _ [4] (by decide +kernel) (by decide +kernel)
set_option maxRecDepth 20000 in
theorem gX8_twinned_X8_all : GoodIn wsX8_twinned (va_wsS RX8 15 yX8_all wsX8_all) := goodIn_app (goodIn_of _ (by decide +kernel)) ggX8_twinned_X8_all
theorem dX8_twinned_0 : decode cX8_twinned 0 = .ok (.iload_n 0, 1) := by decide +kernel
theorem dX8_twinned_1 : decode cX8_twinned 1 = .ok (.iload_n 1, 1) := by decide +kernel
theorem dX8_twinned_2 : decode cX8_twinned 2 = .ok (.invokestatic 15, 3) := by decide +kernel
theorem dX8_twinned_5 : decode cX8_twinned 5 = .ok (.ixor, 1) := by decide +kernel
theorem dX8_twinned_6 : decode cX8_twinned 6 = .ok (.ireturn, 1) := by decide +kernel
set_option maxRecDepth 20000 in
theorem ggX8_fromBelow_X8_twinned : GoodIn wsX8_fromBelow wsX8_twinned := goodIn_r _ [4, 5, 6, 3, 7] (by decide +kernel) (by decide +kernel)
set_option maxRecDepth 20000 in
theorem gX8_fromBelow_X8_twinned : GoodIn wsX8_fromBelow (va_wsS RX8 19 yX8_twinned wsX8_twinned) := goodIn_app (goodIn_of _ (by decide +kernel)) ggX8_fromBelow_X8_twinned
theorem dX8_fromBelow_0 : decode cX8_fromBelow 0 = .ok (.iconst 0, 1) := by decide +kernel
theorem dX8_fromBelow_1 : decode cX8_fromBelow 1 = .ok (.istore_n 2, 1) := by decide +kernel
theorem dX8_fromBelow_2 : decode cX8_fromBelow 2 = .ok (.iconst 0, 1) := by decide +kernel
theorem dX8_fromBelow_3 : decode cX8_fromBelow 3 = .ok (.istore_n 3, 1) := by decide +kernel
theorem dX8_fromBelow_4 : decode cX8_fromBelow 4 = .ok (.iload_n 3, 1) := by decide +kernel
theorem dX8_fromBelow_5 : decode cX8_fromBelow 5 = .ok (.iload_n 1, 1) := by decide +kernel
theorem dX8_fromBelow_6 : decode cX8_fromBelow 6 = .ok (.if_icmp .ge 19, 3) := by decide +kernel
theorem dX8_fromBelow_9 : decode cX8_fromBelow 9 = .ok (.iload_n 2, 1) := by decide +kernel
theorem dX8_fromBelow_10 : decode cX8_fromBelow 10 = .ok (.iconst 2, 1) := by decide +kernel
theorem dX8_fromBelow_11 : decode cX8_fromBelow 11 = .ok (.imul, 1) := by decide +kernel
theorem dX8_fromBelow_12 : decode cX8_fromBelow 12 = .ok (.iload_n 0, 1) := by decide +kernel
theorem dX8_fromBelow_13 : decode cX8_fromBelow 13 = .ok (.iload_n 3, 1) := by decide +kernel
theorem dX8_fromBelow_14 : decode cX8_fromBelow 14 = .ok (.ishr, 1) := by decide +kernel
theorem dX8_fromBelow_15 : decode cX8_fromBelow 15 = .ok (.iconst 1, 1) := by decide +kernel
theorem dX8_fromBelow_16 : decode cX8_fromBelow 16 = .ok (.iand, 1) := by decide +kernel
theorem dX8_fromBelow_17 : decode cX8_fromBelow 17 = .ok (.iadd, 1) := by decide +kernel
theorem dX8_fromBelow_18 : decode cX8_fromBelow 18 = .ok (.istore_n 2, 1) := by decide +kernel
theorem dX8_fromBelow_19 : decode cX8_fromBelow 19 = .ok (.iinc 3 1, 3) := by decide +kernel
theorem dX8_fromBelow_22 : decode cX8_fromBelow 22 = .ok (.goto (-18), 3) := by decide +kernel
theorem dX8_fromBelow_25 : decode cX8_fromBelow 25 = .ok (.iload_n 2, 1) := by decide +kernel
theorem dX8_fromBelow_26 : decode cX8_fromBelow 26 = .ok (.iload_n 1, 1) := by decide +kernel
theorem dX8_fromBelow_27 : decode cX8_fromBelow 27 = .ok (.invokestatic 19, 3) := by decide +kernel
theorem dX8_fromBelow_30 : decode cX8_fromBelow 30 = .ok (.ireturn, 1) := by decide +kernel
set_option maxRecDepth 20000 in
theorem ggX8_otherFrom_X8_all : GoodIn wsX8_otherFrom wsX8_all := goodIn_r _ [4] (by decide +kernel) (by decide +kernel)
set_option maxRecDepth 20000 in
theorem gX8_otherFrom_X8_all : GoodIn wsX8_otherFrom (va_wsS RX8 15 yX8_all wsX8_all) := goodIn_app (goodIn_of _ (by decide +kernel)) ggX8_otherFrom_X8_all
theorem dX8_otherFrom_0 : decode cX8_otherFrom 0 = .ok (.iload_n 0, 1) := by decide +kernel
theorem dX8_otherFrom_1 : decode cX8_otherFrom 1 = .ok (.iload_n 1, 1) := by decide +kernel
theorem dX8_otherFrom_2 : decode cX8_otherFrom 2 = .ok (.iload_n 2, 1) := by decide +kernel
theorem dX8_otherFrom_3 : decode cX8_otherFrom 3 = .ok (.isub, 1) := by decide +kernel
theorem dX8_otherFrom_4 : decode cX8_otherFrom 4 = .ok (.invokestatic 15, 3) := by decide +kernel
theorem dX8_otherFrom_7 : decode cX8_otherFrom 7 = .ok (.ixor, 1) := by decide +kernel
theorem dX8_otherFrom_8 : decode cX8_otherFrom 8 = .ok (.ireturn, 1) := by decide +kernel
set_option maxRecDepth 20000 in
theorem ggX8_total_J6_bitCount_0f7a4 : GoodIn wsX8_total wsJ6_bitCount_0f7a4 := goodIn_r _ [4, 5, 6, 7] (by decide +kernel) (by decide +kernel)
set_option maxRecDepth 20000 in
theorem gX8_total_J6_bitCount_0f7a4 : GoodIn wsX8_total (va_wsS RX8 22 yJ6_bitCount_0f7a4 wsJ6_bitCount_0f7a4) := goodIn_app (goodIn_of _ (by decide +kernel)) ggX8_total_J6_bitCount_0f7a4
theorem dX8_total_0 : decode cX8_total 0 = .ok (.iconst 2, 1) := by decide +kernel
theorem dX8_total_1 : decode cX8_total 1 = .ok (.iload_n 0, 1) := by decide +kernel
theorem dX8_total_2 : decode cX8_total 2 = .ok (.invokestatic 22, 3) := by decide +kernel
theorem dX8_total_5 : decode cX8_total 5 = .ok (.imul, 1) := by decide +kernel
theorem dX8_total_6 : decode cX8_total 6 = .ok (.iload_n 1, 1) := by decide +kernel
theorem dX8_total_7 : decode cX8_total 7 = .ok (.isub, 1) := by decide +kernel
theorem dX8_total_8 : decode cX8_total 8 = .ok (.ireturn, 1) := by decide +kernel
set_option maxRecDepth 20000 in
theorem ggX8_closes_X8_total : GoodIn wsX8_closes wsX8_total := goodIn_r _ [4, 5, 6, 7, 8, 9, 10, 11] (by decide +kernel) (by decide +kernel)
set_option maxRecDepth 20000 in
theorem gX8_closes_X8_total : GoodIn wsX8_closes (va_wsS RX8 27 yX8_total wsX8_total) := goodIn_app (goodIn_of _ (by decide +kernel)) ggX8_closes_X8_total
theorem dX8_closes_0 : decode cX8_closes 0 = .ok (.iload_n 0, 1) := by decide +kernel
theorem dX8_closes_1 : decode cX8_closes 1 = .ok (.iload_n 1, 1) := by decide +kernel
theorem dX8_closes_2 : decode cX8_closes 2 = .ok (.invokestatic 27, 3) := by decide +kernel
theorem dX8_closes_5 : decode cX8_closes 5 = .ok (.iconst 3, 1) := by decide +kernel
theorem dX8_closes_6 : decode cX8_closes 6 = .ok (.irem, 1) := by decide +kernel
theorem dX8_closes_7 : decode cX8_closes 7 = .ok (.ifCond .ne 7, 3) := by decide +kernel
theorem dX8_closes_10 : decode cX8_closes 10 = .ok (.iconst 1, 1) := by decide +kernel
theorem dX8_closes_11 : decode cX8_closes 11 = .ok (.goto 4, 3) := by decide +kernel
theorem dX8_closes_14 : decode cX8_closes 14 = .ok (.iconst 0, 1) := by decide +kernel
theorem dX8_closes_15 : decode cX8_closes 15 = .ok (.ireturn, 1) := by decide +kernel
set_option maxRecDepth 20000 in
theorem ggX8_repeatsAfter_X8_total : GoodIn wsX8_repeatsAfter wsX8_total := goodIn_r _ [4, 5, 6, 7, 8, 9, 10, 11] (by decide +kernel) (by decide +kernel)
set_option maxRecDepth 20000 in
theorem gX8_repeatsAfter_X8_total : GoodIn wsX8_repeatsAfter (va_wsS RX8 27 yX8_total wsX8_total) := goodIn_app (goodIn_of _ (by decide +kernel)) ggX8_repeatsAfter_X8_total
theorem dX8_repeatsAfter_0 : decode cX8_repeatsAfter 0 = .ok (.iload_n 0, 1) := by decide +kernel
theorem dX8_repeatsAfter_1 : decode cX8_repeatsAfter 1 = .ok (.iload_n 1, 1) := by decide +kernel
theorem dX8_repeatsAfter_2 : decode cX8_repeatsAfter 2 = .ok (.invokestatic 27, 3) := by decide +kernel
theorem dX8_repeatsAfter_5 : decode cX8_repeatsAfter 5 = .ok (.iconst 3, 1) := by decide +kernel
theorem dX8_repeatsAfter_6 : decode cX8_repeatsAfter 6 = .ok (.irem, 1) := by decide +kernel
theorem dX8_repeatsAfter_7 : decode cX8_repeatsAfter 7 = .ok (.ifCond .ne 7, 3) := by decide +kernel
theorem dX8_repeatsAfter_10 : decode cX8_repeatsAfter 10 = .ok (.iload_n 1, 1) := by decide +kernel
theorem dX8_repeatsAfter_11 : decode cX8_repeatsAfter 11 = .ok (.goto 6, 3) := by decide +kernel
theorem dX8_repeatsAfter_14 : decode cX8_repeatsAfter 14 = .ok (.iconst 3, 1) := by decide +kernel
theorem dX8_repeatsAfter_15 : decode cX8_repeatsAfter 15 = .ok (.iload_n 1, 1) := by decide +kernel
theorem dX8_repeatsAfter_16 : decode cX8_repeatsAfter 16 = .ok (.imul, 1) := by decide +kernel
theorem dX8_repeatsAfter_17 : decode cX8_repeatsAfter 17 = .ok (.ireturn, 1) := by decide +kernel
set_option maxRecDepth 20000 in
theorem ggX8_period_X8_turned : GoodIn wsX8_period wsX8_turned := goodIn_r _ [4] (by decide +kernel) (by decide +kernel)
set_option maxRecDepth 20000 in
theorem gX8_period_X8_turned : GoodIn wsX8_period (va_wsS RX8 9 yX8_turned wsX8_turned) := goodIn_app (goodIn_of _ (by decide +kernel)) ggX8_period_X8_turned
theorem dX8_period_0 : decode cX8_period 0 = .ok (.iload_n 0, 1) := by decide +kernel
theorem dX8_period_1 : decode cX8_period 1 = .ok (.iload_n 1, 1) := by decide +kernel
theorem dX8_period_2 : decode cX8_period 2 = .ok (.invokestatic 9, 3) := by decide +kernel
theorem dX8_period_5 : decode cX8_period 5 = .ok (.istore_n 2, 1) := by decide +kernel
theorem dX8_period_6 : decode cX8_period 6 = .ok (.iconst 1, 1) := by decide +kernel
theorem dX8_period_7 : decode cX8_period 7 = .ok (.istore_n 3, 1) := by decide +kernel
theorem dX8_period_8 : decode cX8_period 8 = .ok (.iload_n 3, 1) := by decide +kernel
theorem dX8_period_9 : decode cX8_period 9 = .ok (.iload_n 1, 1) := by decide +kernel
theorem dX8_period_10 : decode cX8_period 10 = .ok (.if_icmp .ge 22, 3) := by decide +kernel
theorem dX8_period_13 : decode cX8_period 13 = .ok (.iload_n 2, 1) := by decide +kernel
theorem dX8_period_14 : decode cX8_period 14 = .ok (.iload_n 0, 1) := by decide +kernel
theorem dX8_period_15 : decode cX8_period 15 = .ok (.if_icmp .ne 5, 3) := by decide +kernel
theorem dX8_period_18 : decode cX8_period 18 = .ok (.iload_n 3, 1) := by decide +kernel
theorem dX8_period_19 : decode cX8_period 19 = .ok (.ireturn, 1) := by decide +kernel
theorem dX8_period_20 : decode cX8_period 20 = .ok (.iload_n 2, 1) := by decide +kernel
theorem dX8_period_21 : decode cX8_period 21 = .ok (.iload_n 1, 1) := by decide +kernel
theorem dX8_period_22 : decode cX8_period 22 = .ok (.invokestatic 9, 3) := by decide +kernel
theorem dX8_period_25 : decode cX8_period 25 = .ok (.istore_n 2, 1) := by decide +kernel
theorem dX8_period_26 : decode cX8_period 26 = .ok (.iinc 3 1, 3) := by decide +kernel
theorem dX8_period_29 : decode cX8_period 29 = .ok (.goto (-21), 3) := by decide +kernel
theorem dX8_period_32 : decode cX8_period 32 = .ok (.iload_n 1, 1) := by decide +kernel
theorem dX8_period_33 : decode cX8_period 33 = .ok (.ireturn, 1) := by decide +kernel
set_option maxRecDepth 20000 in
theorem ggX8_hexes_X8_turned : GoodIn wsX8_hexes wsX8_turned := goodIn_r _ [4] (by decide +kernel) (by decide +kernel)
set_option maxRecDepth 20000 in
theorem gX8_hexes_X8_turned : GoodIn wsX8_hexes (va_wsS RX8 9 yX8_turned wsX8_turned) := goodIn_app (goodIn_of _ (by decide +kernel)) ggX8_hexes_X8_turned
set_option maxRecDepth 20000 in
theorem ggX8_hexes_J6_bitCount_0f7a4 : GoodIn wsX8_hexes wsJ6_bitCount_0f7a4 := goodIn_r _ [8, 9, 10, 11] (by decide +kernel) (by decide +kernel)
set_option maxRecDepth 20000 in
theorem gX8_hexes_J6_bitCount_0f7a4 : GoodIn wsX8_hexes (va_wsS RX8 22 yJ6_bitCount_0f7a4 wsJ6_bitCount_0f7a4) := goodIn_app (goodIn_of _ (by decide +kernel)) ggX8_hexes_J6_bitCount_0f7a4
theorem dX8_hexes_0 : decode cX8_hexes 0 = .ok (.iload_n 0, 1) := by decide +kernel
theorem dX8_hexes_1 : decode cX8_hexes 1 = .ok (.iload_n 0, 1) := by decide +kernel
theorem dX8_hexes_2 : decode cX8_hexes 2 = .ok (.iload_n 1, 1) := by decide +kernel
theorem dX8_hexes_3 : decode cX8_hexes 3 = .ok (.invokestatic 9, 3) := by decide +kernel
theorem dX8_hexes_6 : decode cX8_hexes 6 = .ok (.ixor, 1) := by decide +kernel
theorem dX8_hexes_7 : decode cX8_hexes 7 = .ok (.invokestatic 22, 3) := by decide +kernel
theorem dX8_hexes_10 : decode cX8_hexes 10 = .ok (.ireturn, 1) := by decide +kernel
set_option maxRecDepth 20000 in
theorem ggX8_runs_X8_hexes : GoodIn wsX8_runs wsX8_hexes := goodIn_r _ [8, 9, 10, 7, 11, 12, 13, 14, 15, 16, 17, 18] (by decide +kernel) (by decide +kernel)
set_option maxRecDepth 20000 in
theorem gX8_runs_X8_hexes : GoodIn wsX8_runs (va_wsS RX8 30 yX8_hexes wsX8_hexes) := goodIn_app (goodIn_of _ (by decide +kernel)) ggX8_runs_X8_hexes
theorem dX8_runs_0 : decode cX8_runs 0 = .ok (.iconst 1, 1) := by decide +kernel
theorem dX8_runs_1 : decode cX8_runs 1 = .ok (.iload_n 0, 1) := by decide +kernel
theorem dX8_runs_2 : decode cX8_runs 2 = .ok (.iload_n 1, 1) := by decide +kernel
theorem dX8_runs_3 : decode cX8_runs 3 = .ok (.invokestatic 30, 3) := by decide +kernel
theorem dX8_runs_6 : decode cX8_runs 6 = .ok (.invokestatic 33, 3) := by decide +kernel
theorem dX8_runs_9 : decode cX8_runs 9 = .ok (.ireturn, 1) := by decide +kernel
set_option maxRecDepth 20000 in
theorem ggX8_beginsRun_X8_startsUp : GoodIn wsX8_beginsRun wsX8_startsUp := goodIn_r _ [4] (by decide +kernel) (by decide +kernel)
set_option maxRecDepth 20000 in
theorem gX8_beginsRun_X8_startsUp : GoodIn wsX8_beginsRun (va_wsS RX8 38 yX8_startsUp wsX8_startsUp) := goodIn_app (goodIn_of _ (by decide +kernel)) ggX8_beginsRun_X8_startsUp
theorem dX8_beginsRun_0 : decode cX8_beginsRun 0 = .ok (.iload_n 0, 1) := by decide +kernel
theorem dX8_beginsRun_1 : decode cX8_beginsRun 1 = .ok (.iload_n 1, 1) := by decide +kernel
theorem dX8_beginsRun_2 : decode cX8_beginsRun 2 = .ok (.invokestatic 38, 3) := by decide +kernel
theorem dX8_beginsRun_5 : decode cX8_beginsRun 5 = .ok (.iload_n 0, 1) := by decide +kernel
theorem dX8_beginsRun_6 : decode cX8_beginsRun 6 = .ok (.iconst 1, 1) := by decide +kernel
theorem dX8_beginsRun_7 : decode cX8_beginsRun 7 = .ok (.iand, 1) := by decide +kernel
theorem dX8_beginsRun_8 : decode cX8_beginsRun 8 = .ok (.ifCond .eq 7, 3) := by decide +kernel
theorem dX8_beginsRun_11 : decode cX8_beginsRun 11 = .ok (.iconst 1, 1) := by decide +kernel
theorem dX8_beginsRun_12 : decode cX8_beginsRun 12 = .ok (.goto 4, 3) := by decide +kernel
theorem dX8_beginsRun_15 : decode cX8_beginsRun 15 = .ok (.iconst 0, 1) := by decide +kernel
theorem dX8_beginsRun_16 : decode cX8_beginsRun 16 = .ok (.if_icmp .eq 7, 3) := by decide +kernel
theorem dX8_beginsRun_19 : decode cX8_beginsRun 19 = .ok (.iconst 1, 1) := by decide +kernel
theorem dX8_beginsRun_20 : decode cX8_beginsRun 20 = .ok (.goto 4, 3) := by decide +kernel
theorem dX8_beginsRun_23 : decode cX8_beginsRun 23 = .ok (.iconst 0, 1) := by decide +kernel
theorem dX8_beginsRun_24 : decode cX8_beginsRun 24 = .ok (.ireturn, 1) := by decide +kernel
set_option maxRecDepth 20000 in
theorem ggX8_runLength_X8_hexes : GoodIn wsX8_runLength wsX8_hexes := goodIn_r _ [4, 5, 6, 3, 7, 8, 9, 10, 11, 12, 13, 14] (by decide +kernel) (by decide +kernel)
set_option maxRecDepth 20000 in
theorem gX8_runLength_X8_hexes : GoodIn wsX8_runLength (va_wsS RX8 30 yX8_hexes wsX8_hexes) := goodIn_app (goodIn_of _ (by decide +kernel)) ggX8_runLength_X8_hexes
set_option maxRecDepth 20000 in
theorem ggX8_runLength_X8_beginsRun : GoodIn wsX8_runLength wsX8_beginsRun := goodIn_r _ [17, 18, 19, 3, 20] (by decide +kernel) (by decide +kernel)
set_option maxRecDepth 20000 in
theorem gX8_runLength_X8_beginsRun : GoodIn wsX8_runLength (va_wsS RX8 42 yX8_beginsRun wsX8_beginsRun) := goodIn_app (goodIn_of _ (by decide +kernel)) ggX8_runLength_X8_beginsRun
set_option maxRecDepth 20000 in
theorem ggX8_runLength_X8_stepsLikeFirst : GoodIn wsX8_runLength wsX8_stepsLikeFirst := goodIn_r _ [23, 18, 19, 3, 20] (by decide +kernel) (by decide +kernel)
set_option maxRecDepth 20000 in
theorem gX8_runLength_X8_stepsLikeFirst : GoodIn wsX8_runLength (va_wsS RX8 45 yX8_stepsLikeFirst wsX8_stepsLikeFirst) := goodIn_app (goodIn_of _ (by decide +kernel)) ggX8_runLength_X8_stepsLikeFirst
set_option maxRecDepth 20000 in
theorem ggX8_runLength_X8_turned : GoodIn wsX8_runLength wsX8_turned := goodIn_r _ [7] (by decide +kernel) (by decide +kernel)
set_option maxRecDepth 20000 in
theorem gX8_runLength_X8_turned : GoodIn wsX8_runLength (va_wsS RX8 9 yX8_turned wsX8_turned) := goodIn_app (goodIn_of _ (by decide +kernel)) ggX8_runLength_X8_turned
theorem dX8_runLength_0 : decode cX8_runLength 0 = .ok (.iload_n 0, 1) := by decide +kernel
theorem dX8_runLength_1 : decode cX8_runLength 1 = .ok (.iload_n 1, 1) := by decide +kernel
theorem dX8_runLength_2 : decode cX8_runLength 2 = .ok (.invokestatic 30, 3) := by decide +kernel
theorem dX8_runLength_5 : decode cX8_runLength 5 = .ok (.ifCond .ne 5, 3) := by decide +kernel
theorem dX8_runLength_8 : decode cX8_runLength 8 = .ok (.iload_n 1, 1) := by decide +kernel
theorem dX8_runLength_9 : decode cX8_runLength 9 = .ok (.ireturn, 1) := by decide +kernel
theorem dX8_runLength_10 : decode cX8_runLength 10 = .ok (.iconst 0, 1) := by decide +kernel
theorem dX8_runLength_11 : decode cX8_runLength 11 = .ok (.istore_n 3, 1) := by decide +kernel
theorem dX8_runLength_12 : decode cX8_runLength 12 = .ok (.iload_n 0, 1) := by decide +kernel
theorem dX8_runLength_13 : decode cX8_runLength 13 = .ok (.istore 4, 2) := by decide +kernel
theorem dX8_runLength_15 : decode cX8_runLength 15 = .ok (.iconst 0, 1) := by decide +kernel
theorem dX8_runLength_16 : decode cX8_runLength 16 = .ok (.istore 5, 2) := by decide +kernel
theorem dX8_runLength_18 : decode cX8_runLength 18 = .ok (.iload 5, 2) := by decide +kernel
theorem dX8_runLength_20 : decode cX8_runLength 20 = .ok (.iload_n 1, 1) := by decide +kernel
theorem dX8_runLength_21 : decode cX8_runLength 21 = .ok (.if_icmp .ge 41, 3) := by decide +kernel
theorem dX8_runLength_24 : decode cX8_runLength 24 = .ok (.iload 4, 2) := by decide +kernel
theorem dX8_runLength_26 : decode cX8_runLength 26 = .ok (.iload_n 1, 1) := by decide +kernel
theorem dX8_runLength_27 : decode cX8_runLength 27 = .ok (.invokestatic 42, 3) := by decide +kernel
theorem dX8_runLength_30 : decode cX8_runLength 30 = .ok (.ifCond .eq 18, 3) := by decide +kernel
theorem dX8_runLength_33 : decode cX8_runLength 33 = .ok (.iload_n 3, 1) := by decide +kernel
theorem dX8_runLength_34 : decode cX8_runLength 34 = .ok (.iload_n 2, 1) := by decide +kernel
theorem dX8_runLength_35 : decode cX8_runLength 35 = .ok (.if_icmp .ne 10, 3) := by decide +kernel
theorem dX8_runLength_38 : decode cX8_runLength 38 = .ok (.iload 4, 2) := by decide +kernel
theorem dX8_runLength_40 : decode cX8_runLength 40 = .ok (.iload_n 1, 1) := by decide +kernel
theorem dX8_runLength_41 : decode cX8_runLength 41 = .ok (.invokestatic 45, 3) := by decide +kernel
theorem dX8_runLength_44 : decode cX8_runLength 44 = .ok (.ireturn, 1) := by decide +kernel
theorem dX8_runLength_45 : decode cX8_runLength 45 = .ok (.iinc 3 1, 3) := by decide +kernel
theorem dX8_runLength_48 : decode cX8_runLength 48 = .ok (.iload 4, 2) := by decide +kernel
theorem dX8_runLength_50 : decode cX8_runLength 50 = .ok (.iload_n 1, 1) := by decide +kernel
theorem dX8_runLength_51 : decode cX8_runLength 51 = .ok (.invokestatic 9, 3) := by decide +kernel
theorem dX8_runLength_54 : decode cX8_runLength 54 = .ok (.istore 4, 2) := by decide +kernel
theorem dX8_runLength_56 : decode cX8_runLength 56 = .ok (.iinc 5 1, 3) := by decide +kernel
theorem dX8_runLength_59 : decode cX8_runLength 59 = .ok (.goto (-41), 3) := by decide +kernel
theorem dX8_runLength_62 : decode cX8_runLength 62 = .ok (.iconst (-1), 1) := by decide +kernel
theorem dX8_runLength_63 : decode cX8_runLength 63 = .ok (.ireturn, 1) := by decide +kernel
set_option maxRecDepth 20000 in
theorem ggX8_stepsLikeFirst_X8_startsUp : GoodIn wsX8_stepsLikeFirst wsX8_startsUp := goodIn_r _ [4] (by decide +kernel) (by decide +kernel)
set_option maxRecDepth 20000 in
theorem gX8_stepsLikeFirst_X8_startsUp : GoodIn wsX8_stepsLikeFirst (va_wsS RX8 38 yX8_startsUp wsX8_startsUp) := goodIn_app (goodIn_of _ (by decide +kernel)) ggX8_stepsLikeFirst_X8_startsUp
theorem dX8_stepsLikeFirst_0 : decode cX8_stepsLikeFirst 0 = .ok (.iload_n 0, 1) := by decide +kernel
theorem dX8_stepsLikeFirst_1 : decode cX8_stepsLikeFirst 1 = .ok (.iload_n 1, 1) := by decide +kernel
theorem dX8_stepsLikeFirst_2 : decode cX8_stepsLikeFirst 2 = .ok (.invokestatic 38, 3) := by decide +kernel
theorem dX8_stepsLikeFirst_5 : decode cX8_stepsLikeFirst 5 = .ok (.istore_n 2, 1) := by decide +kernel
theorem dX8_stepsLikeFirst_6 : decode cX8_stepsLikeFirst 6 = .ok (.iconst 1, 1) := by decide +kernel
theorem dX8_stepsLikeFirst_7 : decode cX8_stepsLikeFirst 7 = .ok (.istore_n 3, 1) := by decide +kernel
theorem dX8_stepsLikeFirst_8 : decode cX8_stepsLikeFirst 8 = .ok (.iload_n 3, 1) := by decide +kernel
theorem dX8_stepsLikeFirst_9 : decode cX8_stepsLikeFirst 9 = .ok (.iload_n 1, 1) := by decide +kernel
theorem dX8_stepsLikeFirst_10 : decode cX8_stepsLikeFirst 10 = .ok (.if_icmp .ge 30, 3) := by decide +kernel
theorem dX8_stepsLikeFirst_13 : decode cX8_stepsLikeFirst 13 = .ok (.iload_n 0, 1) := by decide +kernel
theorem dX8_stepsLikeFirst_14 : decode cX8_stepsLikeFirst 14 = .ok (.iload_n 1, 1) := by decide +kernel
theorem dX8_stepsLikeFirst_15 : decode cX8_stepsLikeFirst 15 = .ok (.iconst 1, 1) := by decide +kernel
theorem dX8_stepsLikeFirst_16 : decode cX8_stepsLikeFirst 16 = .ok (.isub, 1) := by decide +kernel
theorem dX8_stepsLikeFirst_17 : decode cX8_stepsLikeFirst 17 = .ok (.iload_n 3, 1) := by decide +kernel
theorem dX8_stepsLikeFirst_18 : decode cX8_stepsLikeFirst 18 = .ok (.isub, 1) := by decide +kernel
theorem dX8_stepsLikeFirst_19 : decode cX8_stepsLikeFirst 19 = .ok (.ishr, 1) := by decide +kernel
theorem dX8_stepsLikeFirst_20 : decode cX8_stepsLikeFirst 20 = .ok (.iconst 1, 1) := by decide +kernel
theorem dX8_stepsLikeFirst_21 : decode cX8_stepsLikeFirst 21 = .ok (.iand, 1) := by decide +kernel
theorem dX8_stepsLikeFirst_22 : decode cX8_stepsLikeFirst 22 = .ok (.iload_n 2, 1) := by decide +kernel
theorem dX8_stepsLikeFirst_23 : decode cX8_stepsLikeFirst 23 = .ok (.ifCond .eq 7, 3) := by decide +kernel
theorem dX8_stepsLikeFirst_26 : decode cX8_stepsLikeFirst 26 = .ok (.iconst 1, 1) := by decide +kernel
theorem dX8_stepsLikeFirst_27 : decode cX8_stepsLikeFirst 27 = .ok (.goto 4, 3) := by decide +kernel
theorem dX8_stepsLikeFirst_30 : decode cX8_stepsLikeFirst 30 = .ok (.iconst 0, 1) := by decide +kernel
theorem dX8_stepsLikeFirst_31 : decode cX8_stepsLikeFirst 31 = .ok (.if_icmp .ne 9, 3) := by decide +kernel
theorem dX8_stepsLikeFirst_34 : decode cX8_stepsLikeFirst 34 = .ok (.iinc 3 1, 3) := by decide +kernel
theorem dX8_stepsLikeFirst_37 : decode cX8_stepsLikeFirst 37 = .ok (.goto (-29), 3) := by decide +kernel
theorem dX8_stepsLikeFirst_40 : decode cX8_stepsLikeFirst 40 = .ok (.iload_n 3, 1) := by decide +kernel
theorem dX8_stepsLikeFirst_41 : decode cX8_stepsLikeFirst 41 = .ok (.ireturn, 1) := by decide +kernel
theorem dX8_letterBehind_0 : decode cX8_letterBehind 0 = .ok (.iload_n 0, 1) := by decide +kernel
theorem dX8_letterBehind_1 : decode cX8_letterBehind 1 = .ok (.iload_n 1, 1) := by decide +kernel
theorem dX8_letterBehind_2 : decode cX8_letterBehind 2 = .ok (.ifCond .eq 7, 3) := by decide +kernel
theorem dX8_letterBehind_5 : decode cX8_letterBehind 5 = .ok (.iconst 1, 1) := by decide +kernel
theorem dX8_letterBehind_6 : decode cX8_letterBehind 6 = .ok (.goto 4, 3) := by decide +kernel
theorem dX8_letterBehind_9 : decode cX8_letterBehind 9 = .ok (.iconst 2, 1) := by decide +kernel
theorem dX8_letterBehind_10 : decode cX8_letterBehind 10 = .ok (.iadd, 1) := by decide +kernel
theorem dX8_letterBehind_11 : decode cX8_letterBehind 11 = .ok (.iconst 3, 1) := by decide +kernel
theorem dX8_letterBehind_12 : decode cX8_letterBehind 12 = .ok (.irem, 1) := by decide +kernel
theorem dX8_letterBehind_13 : decode cX8_letterBehind 13 = .ok (.ireturn, 1) := by decide +kernel
set_option maxRecDepth 20000 in
theorem ggX8_letterAt_X8_startsUp : GoodIn wsX8_letterAt wsX8_startsUp := goodIn_r _ [4] (by decide +kernel) (by decide +kernel)
set_option maxRecDepth 20000 in
theorem gX8_letterAt_X8_startsUp : GoodIn wsX8_letterAt (va_wsS RX8 38 yX8_startsUp wsX8_startsUp) := goodIn_app (goodIn_of _ (by decide +kernel)) ggX8_letterAt_X8_startsUp
set_option maxRecDepth 20000 in
theorem ggX8_letterAt_X8_letterBehind : GoodIn wsX8_letterAt wsX8_letterBehind := goodIn_r _ [7] (by decide +kernel) (by decide +kernel)
set_option maxRecDepth 20000 in
theorem gX8_letterAt_X8_letterBehind : GoodIn wsX8_letterAt (va_wsS RX8 48 yX8_letterBehind wsX8_letterBehind) := goodIn_app (goodIn_of _ (by decide +kernel)) ggX8_letterAt_X8_letterBehind
set_option maxRecDepth 20000 in
theorem ggX8_letterAt_X8_turned : GoodIn wsX8_letterAt wsX8_turned := goodIn_r _ [10] (by decide +kernel) (by decide +kernel)
set_option maxRecDepth 20000 in
theorem gX8_letterAt_X8_turned : GoodIn wsX8_letterAt (va_wsS RX8 9 yX8_turned wsX8_turned) := goodIn_app (goodIn_of _ (by decide +kernel)) ggX8_letterAt_X8_turned
theorem dX8_letterAt_0 : decode cX8_letterAt 0 = .ok (.iconst 0, 1) := by decide +kernel
theorem dX8_letterAt_1 : decode cX8_letterAt 1 = .ok (.istore_n 3, 1) := by decide +kernel
theorem dX8_letterAt_2 : decode cX8_letterAt 2 = .ok (.iload_n 0, 1) := by decide +kernel
theorem dX8_letterAt_3 : decode cX8_letterAt 3 = .ok (.istore 4, 2) := by decide +kernel
theorem dX8_letterAt_5 : decode cX8_letterAt 5 = .ok (.iconst 0, 1) := by decide +kernel
theorem dX8_letterAt_6 : decode cX8_letterAt 6 = .ok (.istore 5, 2) := by decide +kernel
theorem dX8_letterAt_8 : decode cX8_letterAt 8 = .ok (.iload 5, 2) := by decide +kernel
theorem dX8_letterAt_10 : decode cX8_letterAt 10 = .ok (.iload_n 2, 1) := by decide +kernel
theorem dX8_letterAt_11 : decode cX8_letterAt 11 = .ok (.if_icmp .ge 28, 3) := by decide +kernel
theorem dX8_letterAt_14 : decode cX8_letterAt 14 = .ok (.iload_n 3, 1) := by decide +kernel
theorem dX8_letterAt_15 : decode cX8_letterAt 15 = .ok (.iload 4, 2) := by decide +kernel
theorem dX8_letterAt_17 : decode cX8_letterAt 17 = .ok (.iload_n 1, 1) := by decide +kernel
theorem dX8_letterAt_18 : decode cX8_letterAt 18 = .ok (.invokestatic 38, 3) := by decide +kernel
theorem dX8_letterAt_21 : decode cX8_letterAt 21 = .ok (.invokestatic 48, 3) := by decide +kernel
theorem dX8_letterAt_24 : decode cX8_letterAt 24 = .ok (.istore_n 3, 1) := by decide +kernel
theorem dX8_letterAt_25 : decode cX8_letterAt 25 = .ok (.iload 4, 2) := by decide +kernel
theorem dX8_letterAt_27 : decode cX8_letterAt 27 = .ok (.iload_n 1, 1) := by decide +kernel
theorem dX8_letterAt_28 : decode cX8_letterAt 28 = .ok (.invokestatic 9, 3) := by decide +kernel
theorem dX8_letterAt_31 : decode cX8_letterAt 31 = .ok (.istore 4, 2) := by decide +kernel
theorem dX8_letterAt_33 : decode cX8_letterAt 33 = .ok (.iinc 5 1, 3) := by decide +kernel
theorem dX8_letterAt_36 : decode cX8_letterAt 36 = .ok (.goto (-28), 3) := by decide +kernel
theorem dX8_letterAt_39 : decode cX8_letterAt 39 = .ok (.iload_n 3, 1) := by decide +kernel
theorem dX8_letterAt_40 : decode cX8_letterAt 40 = .ok (.ireturn, 1) := by decide +kernel
set_option maxRecDepth 20000 in
theorem ggX8_layersAlike_X8_letterAt : GoodIn wsX8_layersAlike wsX8_letterAt := goodIn_r _ [4, 5, 6, 3, 7, 8, 9, 10, 11, 12, 13] (by decide +kernel) (by decide +kernel)
set_option maxRecDepth 20000 in
theorem gX8_layersAlike_X8_letterAt : GoodIn wsX8_layersAlike (va_wsS RX8 52 yX8_letterAt wsX8_letterAt) := goodIn_app (goodIn_of _ (by decide +kernel)) ggX8_layersAlike_X8_letterAt
set_option maxRecDepth 20000 in
theorem ggX8_layersAlike_X8_turnedBy : GoodIn wsX8_layersAlike wsX8_turnedBy := goodIn_r _ [16, 11, 12, 3, 13] (by decide +kernel) (by decide +kernel)
set_option maxRecDepth 20000 in
theorem gX8_layersAlike_X8_turnedBy : GoodIn wsX8_layersAlike (va_wsS RX8 56 yX8_turnedBy wsX8_turnedBy) := goodIn_app (goodIn_of _ (by decide +kernel)) ggX8_layersAlike_X8_turnedBy
set_option maxRecDepth 20000 in
theorem ggX8_layersAlike_X8_repeatsAfter : GoodIn wsX8_layersAlike wsX8_repeatsAfter := goodIn_r _ [19, 20, 21, 3, 22, 23, 24, 25, 26, 27, 28, 29] (by decide +kernel) (by decide +kernel)
set_option maxRecDepth 20000 in
theorem gX8_layersAlike_X8_repeatsAfter : GoodIn wsX8_layersAlike (va_wsS RX8 59 yX8_repeatsAfter wsX8_repeatsAfter) := goodIn_app (goodIn_of _ (by decide +kernel)) ggX8_layersAlike_X8_repeatsAfter
set_option maxRecDepth 20000 in
theorem ggX8_layersAlike_X8_startsUp : GoodIn wsX8_layersAlike wsX8_startsUp := goodIn_r _ [7] (by decide +kernel) (by decide +kernel)
set_option maxRecDepth 20000 in
theorem gX8_layersAlike_X8_startsUp : GoodIn wsX8_layersAlike (va_wsS RX8 38 yX8_startsUp wsX8_startsUp) := goodIn_app (goodIn_of _ (by decide +kernel)) ggX8_layersAlike_X8_startsUp
set_option maxRecDepth 20000 in
theorem ggX8_layersAlike_X8_letterBehind : GoodIn wsX8_layersAlike wsX8_letterBehind := goodIn_r _ [10] (by decide +kernel) (by decide +kernel)
set_option maxRecDepth 20000 in
theorem gX8_layersAlike_X8_letterBehind : GoodIn wsX8_layersAlike (va_wsS RX8 48 yX8_letterBehind wsX8_letterBehind) := goodIn_app (goodIn_of _ (by decide +kernel)) ggX8_layersAlike_X8_letterBehind
set_option maxRecDepth 20000 in
theorem ggX8_layersAlike_X8_turned : GoodIn wsX8_layersAlike wsX8_turned := goodIn_r _ [13] (by decide +kernel) (by decide +kernel)
set_option maxRecDepth 20000 in
theorem gX8_layersAlike_X8_turned : GoodIn wsX8_layersAlike (va_wsS RX8 9 yX8_turned wsX8_turned) := goodIn_app (goodIn_of _ (by decide +kernel)) ggX8_layersAlike_X8_turned
theorem dX8_layersAlike_0 : decode cX8_layersAlike 0 = .ok (.iconst 0, 1) := by decide +kernel
theorem dX8_layersAlike_1 : decode cX8_layersAlike 1 = .ok (.istore_n 3, 1) := by decide +kernel
theorem dX8_layersAlike_2 : decode cX8_layersAlike 2 = .ok (.iconst 0, 1) := by decide +kernel
theorem dX8_layersAlike_3 : decode cX8_layersAlike 3 = .ok (.istore 4, 2) := by decide +kernel
theorem dX8_layersAlike_5 : decode cX8_layersAlike 5 = .ok (.iload_n 0, 1) := by decide +kernel
theorem dX8_layersAlike_6 : decode cX8_layersAlike 6 = .ok (.iload_n 1, 1) := by decide +kernel
theorem dX8_layersAlike_7 : decode cX8_layersAlike 7 = .ok (.iload_n 2, 1) := by decide +kernel
theorem dX8_layersAlike_8 : decode cX8_layersAlike 8 = .ok (.invokestatic 52, 3) := by decide +kernel
theorem dX8_layersAlike_11 : decode cX8_layersAlike 11 = .ok (.istore 5, 2) := by decide +kernel
theorem dX8_layersAlike_13 : decode cX8_layersAlike 13 = .ok (.iload_n 0, 1) := by decide +kernel
theorem dX8_layersAlike_14 : decode cX8_layersAlike 14 = .ok (.istore 6, 2) := by decide +kernel
theorem dX8_layersAlike_16 : decode cX8_layersAlike 16 = .ok (.iload_n 0, 1) := by decide +kernel
theorem dX8_layersAlike_17 : decode cX8_layersAlike 17 = .ok (.iload_n 1, 1) := by decide +kernel
theorem dX8_layersAlike_18 : decode cX8_layersAlike 18 = .ok (.iload_n 2, 1) := by decide +kernel
theorem dX8_layersAlike_19 : decode cX8_layersAlike 19 = .ok (.invokestatic 56, 3) := by decide +kernel
theorem dX8_layersAlike_22 : decode cX8_layersAlike 22 = .ok (.istore 7, 2) := by decide +kernel
theorem dX8_layersAlike_24 : decode cX8_layersAlike 24 = .ok (.iconst 0, 1) := by decide +kernel
theorem dX8_layersAlike_25 : decode cX8_layersAlike 25 = .ok (.istore 8, 2) := by decide +kernel
theorem dX8_layersAlike_27 : decode cX8_layersAlike 27 = .ok (.iload 8, 2) := by decide +kernel
theorem dX8_layersAlike_29 : decode cX8_layersAlike 29 = .ok (.iload_n 0, 1) := by decide +kernel
theorem dX8_layersAlike_30 : decode cX8_layersAlike 30 = .ok (.iload_n 1, 1) := by decide +kernel
theorem dX8_layersAlike_31 : decode cX8_layersAlike 31 = .ok (.invokestatic 59, 3) := by decide +kernel
theorem dX8_layersAlike_34 : decode cX8_layersAlike 34 = .ok (.if_icmp .ge 66, 3) := by decide +kernel
theorem dX8_layersAlike_37 : decode cX8_layersAlike 37 = .ok (.iload_n 3, 1) := by decide +kernel
theorem dX8_layersAlike_38 : decode cX8_layersAlike 38 = .ok (.iload 4, 2) := by decide +kernel
theorem dX8_layersAlike_40 : decode cX8_layersAlike 40 = .ok (.iload 5, 2) := by decide +kernel
theorem dX8_layersAlike_42 : decode cX8_layersAlike 42 = .ok (.if_icmp .ne 7, 3) := by decide +kernel
theorem dX8_layersAlike_45 : decode cX8_layersAlike 45 = .ok (.iconst 1, 1) := by decide +kernel
theorem dX8_layersAlike_46 : decode cX8_layersAlike 46 = .ok (.goto 4, 3) := by decide +kernel
theorem dX8_layersAlike_49 : decode cX8_layersAlike 49 = .ok (.iconst 0, 1) := by decide +kernel
theorem dX8_layersAlike_50 : decode cX8_layersAlike 50 = .ok (.iadd, 1) := by decide +kernel
theorem dX8_layersAlike_51 : decode cX8_layersAlike 51 = .ok (.istore_n 3, 1) := by decide +kernel
theorem dX8_layersAlike_52 : decode cX8_layersAlike 52 = .ok (.iload 4, 2) := by decide +kernel
theorem dX8_layersAlike_54 : decode cX8_layersAlike 54 = .ok (.iload 6, 2) := by decide +kernel
theorem dX8_layersAlike_56 : decode cX8_layersAlike 56 = .ok (.iload_n 1, 1) := by decide +kernel
theorem dX8_layersAlike_57 : decode cX8_layersAlike 57 = .ok (.invokestatic 38, 3) := by decide +kernel
theorem dX8_layersAlike_60 : decode cX8_layersAlike 60 = .ok (.invokestatic 48, 3) := by decide +kernel
theorem dX8_layersAlike_63 : decode cX8_layersAlike 63 = .ok (.istore 4, 2) := by decide +kernel
theorem dX8_layersAlike_65 : decode cX8_layersAlike 65 = .ok (.iload 5, 2) := by decide +kernel
theorem dX8_layersAlike_67 : decode cX8_layersAlike 67 = .ok (.iload 7, 2) := by decide +kernel
theorem dX8_layersAlike_69 : decode cX8_layersAlike 69 = .ok (.iload_n 1, 1) := by decide +kernel
theorem dX8_layersAlike_70 : decode cX8_layersAlike 70 = .ok (.invokestatic 38, 3) := by decide +kernel
theorem dX8_layersAlike_73 : decode cX8_layersAlike 73 = .ok (.invokestatic 48, 3) := by decide +kernel
theorem dX8_layersAlike_76 : decode cX8_layersAlike 76 = .ok (.istore 5, 2) := by decide +kernel
theorem dX8_layersAlike_78 : decode cX8_layersAlike 78 = .ok (.iload 6, 2) := by decide +kernel
theorem dX8_layersAlike_80 : decode cX8_layersAlike 80 = .ok (.iload_n 1, 1) := by decide +kernel
theorem dX8_layersAlike_81 : decode cX8_layersAlike 81 = .ok (.invokestatic 9, 3) := by decide +kernel
theorem dX8_layersAlike_84 : decode cX8_layersAlike 84 = .ok (.istore 6, 2) := by decide +kernel
theorem dX8_layersAlike_86 : decode cX8_layersAlike 86 = .ok (.iload 7, 2) := by decide +kernel
theorem dX8_layersAlike_88 : decode cX8_layersAlike 88 = .ok (.iload_n 1, 1) := by decide +kernel
theorem dX8_layersAlike_89 : decode cX8_layersAlike 89 = .ok (.invokestatic 9, 3) := by decide +kernel
theorem dX8_layersAlike_92 : decode cX8_layersAlike 92 = .ok (.istore 7, 2) := by decide +kernel
theorem dX8_layersAlike_94 : decode cX8_layersAlike 94 = .ok (.iinc 8 1, 3) := by decide +kernel
theorem dX8_layersAlike_97 : decode cX8_layersAlike 97 = .ok (.goto (-70), 3) := by decide +kernel
theorem dX8_layersAlike_100 : decode cX8_layersAlike 100 = .ok (.iload_n 3, 1) := by decide +kernel
theorem dX8_layersAlike_101 : decode cX8_layersAlike 101 = .ok (.ireturn, 1) := by decide +kernel
theorem dX8_allows_0 : decode cX8_allows 0 = .ok (.iload_n 1, 1) := by decide +kernel
theorem dX8_allows_1 : decode cX8_allows 1 = .ok (.iload_n 0, 1) := by decide +kernel
theorem dX8_allows_2 : decode cX8_allows 2 = .ok (.iconst (-1), 1) := by decide +kernel
theorem dX8_allows_3 : decode cX8_allows 3 = .ok (.ixor, 1) := by decide +kernel
theorem dX8_allows_4 : decode cX8_allows 4 = .ok (.iand, 1) := by decide +kernel
theorem dX8_allows_5 : decode cX8_allows 5 = .ok (.ifCond .ne 7, 3) := by decide +kernel
theorem dX8_allows_8 : decode cX8_allows 8 = .ok (.iconst 1, 1) := by decide +kernel
theorem dX8_allows_9 : decode cX8_allows 9 = .ok (.goto 4, 3) := by decide +kernel
theorem dX8_allows_12 : decode cX8_allows 12 = .ok (.iconst 0, 1) := by decide +kernel
theorem dX8_allows_13 : decode cX8_allows 13 = .ok (.ireturn, 1) := by decide +kernel
set_option maxRecDepth 20000 in
theorem ggX8_inWay_X8_twinned : GoodIn wsX8_inWay wsX8_twinned := goodIn_r _ [4, 5, 6, 3, 7] (by decide +kernel) (by decide +kernel)
set_option maxRecDepth 20000 in
theorem gX8_inWay_X8_twinned : GoodIn wsX8_inWay (va_wsS RX8 19 yX8_twinned wsX8_twinned) := goodIn_app (goodIn_of _ (by decide +kernel)) ggX8_inWay_X8_twinned
set_option maxRecDepth 20000 in
theorem ggX8_inWay_X8_fromBelow : GoodIn wsX8_inWay wsX8_fromBelow := goodIn_r _ [10, 1, 2, 3, 4, 5, 6, 7] (by decide +kernel) (by decide +kernel)
set_option maxRecDepth 20000 in
theorem gX8_inWay_X8_fromBelow : GoodIn wsX8_inWay (va_wsS RX8 62 yX8_fromBelow wsX8_fromBelow) := goodIn_app (goodIn_of _ (by decide +kernel)) ggX8_inWay_X8_fromBelow
theorem dX8_inWay_0 : decode cX8_inWay 0 = .ok (.iload_n 2, 1) := by decide +kernel
theorem dX8_inWay_1 : decode cX8_inWay 1 = .ok (.iconst 1, 1) := by decide +kernel
theorem dX8_inWay_2 : decode cX8_inWay 2 = .ok (.iand, 1) := by decide +kernel
theorem dX8_inWay_3 : decode cX8_inWay 3 = .ok (.ifCond .eq 11, 3) := by decide +kernel
theorem dX8_inWay_6 : decode cX8_inWay 6 = .ok (.iload_n 0, 1) := by decide +kernel
theorem dX8_inWay_7 : decode cX8_inWay 7 = .ok (.iload_n 1, 1) := by decide +kernel
theorem dX8_inWay_8 : decode cX8_inWay 8 = .ok (.invokestatic 19, 3) := by decide +kernel
theorem dX8_inWay_11 : decode cX8_inWay 11 = .ok (.goto 4, 3) := by decide +kernel
theorem dX8_inWay_14 : decode cX8_inWay 14 = .ok (.iload_n 0, 1) := by decide +kernel
theorem dX8_inWay_15 : decode cX8_inWay 15 = .ok (.istore_n 3, 1) := by decide +kernel
theorem dX8_inWay_16 : decode cX8_inWay 16 = .ok (.iload_n 2, 1) := by decide +kernel
theorem dX8_inWay_17 : decode cX8_inWay 17 = .ok (.iconst 2, 1) := by decide +kernel
theorem dX8_inWay_18 : decode cX8_inWay 18 = .ok (.iand, 1) := by decide +kernel
theorem dX8_inWay_19 : decode cX8_inWay 19 = .ok (.ifCond .eq 11, 3) := by decide +kernel
theorem dX8_inWay_22 : decode cX8_inWay 22 = .ok (.iload_n 3, 1) := by decide +kernel
theorem dX8_inWay_23 : decode cX8_inWay 23 = .ok (.iload_n 1, 1) := by decide +kernel
theorem dX8_inWay_24 : decode cX8_inWay 24 = .ok (.invokestatic 62, 3) := by decide +kernel
theorem dX8_inWay_27 : decode cX8_inWay 27 = .ok (.goto 4, 3) := by decide +kernel
theorem dX8_inWay_30 : decode cX8_inWay 30 = .ok (.iload_n 3, 1) := by decide +kernel
theorem dX8_inWay_31 : decode cX8_inWay 31 = .ok (.ireturn, 1) := by decide +kernel
set_option maxRecDepth 20000 in
theorem ggX8_leastTurned_X8_turned : GoodIn wsX8_leastTurned wsX8_turned := goodIn_r _ [8] (by decide +kernel) (by decide +kernel)
set_option maxRecDepth 20000 in
theorem gX8_leastTurned_X8_turned : GoodIn wsX8_leastTurned (va_wsS RX8 9 yX8_turned wsX8_turned) := goodIn_app (goodIn_of _ (by decide +kernel)) ggX8_leastTurned_X8_turned
theorem dX8_leastTurned_0 : decode cX8_leastTurned 0 = .ok (.iload_n 0, 1) := by decide +kernel
theorem dX8_leastTurned_1 : decode cX8_leastTurned 1 = .ok (.istore_n 2, 1) := by decide +kernel
theorem dX8_leastTurned_2 : decode cX8_leastTurned 2 = .ok (.iload_n 0, 1) := by decide +kernel
theorem dX8_leastTurned_3 : decode cX8_leastTurned 3 = .ok (.istore_n 3, 1) := by decide +kernel
theorem dX8_leastTurned_4 : decode cX8_leastTurned 4 = .ok (.iconst 1, 1) := by decide +kernel
theorem dX8_leastTurned_5 : decode cX8_leastTurned 5 = .ok (.istore 4, 2) := by decide +kernel
theorem dX8_leastTurned_7 : decode cX8_leastTurned 7 = .ok (.iload 4, 2) := by decide +kernel
theorem dX8_leastTurned_9 : decode cX8_leastTurned 9 = .ok (.iload_n 1, 1) := by decide +kernel
theorem dX8_leastTurned_10 : decode cX8_leastTurned 10 = .ok (.if_icmp .ge 21, 3) := by decide +kernel
theorem dX8_leastTurned_13 : decode cX8_leastTurned 13 = .ok (.iload_n 3, 1) := by decide +kernel
theorem dX8_leastTurned_14 : decode cX8_leastTurned 14 = .ok (.iload_n 1, 1) := by decide +kernel
theorem dX8_leastTurned_15 : decode cX8_leastTurned 15 = .ok (.invokestatic 9, 3) := by decide +kernel
theorem dX8_leastTurned_18 : decode cX8_leastTurned 18 = .ok (.istore_n 3, 1) := by decide +kernel
theorem dX8_leastTurned_19 : decode cX8_leastTurned 19 = .ok (.iload_n 2, 1) := by decide +kernel
theorem dX8_leastTurned_20 : decode cX8_leastTurned 20 = .ok (.iload_n 3, 1) := by decide +kernel
theorem dX8_leastTurned_21 : decode cX8_leastTurned 21 = .ok (.invokestatic 65, 3) := by decide +kernel
theorem dX8_leastTurned_24 : decode cX8_leastTurned 24 = .ok (.istore_n 2, 1) := by decide +kernel
theorem dX8_leastTurned_25 : decode cX8_leastTurned 25 = .ok (.iinc 4 1, 3) := by decide +kernel
theorem dX8_leastTurned_28 : decode cX8_leastTurned 28 = .ok (.goto (-21), 3) := by decide +kernel
theorem dX8_leastTurned_31 : decode cX8_leastTurned 31 = .ok (.iload_n 2, 1) := by decide +kernel
theorem dX8_leastTurned_32 : decode cX8_leastTurned 32 = .ok (.ireturn, 1) := by decide +kernel
set_option maxRecDepth 20000 in
theorem ggX8_leastAlike_X8_allows : GoodIn wsX8_leastAlike wsX8_allows := goodIn_r _ [8] (by decide +kernel) (by decide +kernel)
set_option maxRecDepth 20000 in
theorem gX8_leastAlike_X8_allows : GoodIn wsX8_leastAlike (va_wsS RX8 68 yX8_allows wsX8_allows) := goodIn_app (goodIn_of _ (by decide +kernel)) ggX8_leastAlike_X8_allows
set_option maxRecDepth 20000 in
theorem ggX8_leastAlike_X8_inWay : GoodIn wsX8_leastAlike wsX8_inWay := goodIn_r _ [11, 12, 13, 7, 14, 15, 16, 17, 18, 19, 20] (by decide +kernel) (by decide +kernel)
set_option maxRecDepth 20000 in
theorem gX8_leastAlike_X8_inWay : GoodIn wsX8_leastAlike (va_wsS RX8 71 yX8_inWay wsX8_inWay) := goodIn_app (goodIn_of _ (by decide +kernel)) ggX8_leastAlike_X8_inWay
set_option maxRecDepth 20000 in
theorem ggX8_leastAlike_X8_leastTurned : GoodIn wsX8_leastAlike wsX8_leastTurned := goodIn_r _ [23, 1, 2, 3, 4, 24, 25, 7, 26] (by decide +kernel) (by decide +kernel)
set_option maxRecDepth 20000 in
theorem gX8_leastAlike_X8_leastTurned : GoodIn wsX8_leastAlike (va_wsS RX8 74 yX8_leastTurned wsX8_leastTurned) := goodIn_app (goodIn_of _ (by decide +kernel)) ggX8_leastAlike_X8_leastTurned
theorem dX8_leastAlike_0 : decode cX8_leastAlike 0 = .ok (.iload_n 0, 1) := by decide +kernel
theorem dX8_leastAlike_1 : decode cX8_leastAlike 1 = .ok (.istore_n 3, 1) := by decide +kernel
theorem dX8_leastAlike_2 : decode cX8_leastAlike 2 = .ok (.iconst 0, 1) := by decide +kernel
theorem dX8_leastAlike_3 : decode cX8_leastAlike 3 = .ok (.istore 4, 2) := by decide +kernel
theorem dX8_leastAlike_5 : decode cX8_leastAlike 5 = .ok (.iload 4, 2) := by decide +kernel
theorem dX8_leastAlike_7 : decode cX8_leastAlike 7 = .ok (.iconst 3, 1) := by decide +kernel
theorem dX8_leastAlike_8 : decode cX8_leastAlike 8 = .ok (.if_icmp .gt 34, 3) := by decide +kernel
theorem dX8_leastAlike_11 : decode cX8_leastAlike 11 = .ok (.iload_n 2, 1) := by decide +kernel
theorem dX8_leastAlike_12 : decode cX8_leastAlike 12 = .ok (.iload 4, 2) := by decide +kernel
theorem dX8_leastAlike_14 : decode cX8_leastAlike 14 = .ok (.invokestatic 68, 3) := by decide +kernel
theorem dX8_leastAlike_17 : decode cX8_leastAlike 17 = .ok (.ifCond .eq 19, 3) := by decide +kernel
theorem dX8_leastAlike_20 : decode cX8_leastAlike 20 = .ok (.iload_n 3, 1) := by decide +kernel
theorem dX8_leastAlike_21 : decode cX8_leastAlike 21 = .ok (.iload_n 0, 1) := by decide +kernel
theorem dX8_leastAlike_22 : decode cX8_leastAlike 22 = .ok (.iload_n 1, 1) := by decide +kernel
theorem dX8_leastAlike_23 : decode cX8_leastAlike 23 = .ok (.iload 4, 2) := by decide +kernel
theorem dX8_leastAlike_25 : decode cX8_leastAlike 25 = .ok (.invokestatic 71, 3) := by decide +kernel
theorem dX8_leastAlike_28 : decode cX8_leastAlike 28 = .ok (.iload_n 1, 1) := by decide +kernel
theorem dX8_leastAlike_29 : decode cX8_leastAlike 29 = .ok (.invokestatic 74, 3) := by decide +kernel
theorem dX8_leastAlike_32 : decode cX8_leastAlike 32 = .ok (.invokestatic 65, 3) := by decide +kernel
theorem dX8_leastAlike_35 : decode cX8_leastAlike 35 = .ok (.istore_n 3, 1) := by decide +kernel
theorem dX8_leastAlike_36 : decode cX8_leastAlike 36 = .ok (.iinc 4 1, 3) := by decide +kernel
theorem dX8_leastAlike_39 : decode cX8_leastAlike 39 = .ok (.goto (-34), 3) := by decide +kernel
theorem dX8_leastAlike_42 : decode cX8_leastAlike 42 = .ok (.iload_n 3, 1) := by decide +kernel
theorem dX8_leastAlike_43 : decode cX8_leastAlike 43 = .ok (.ireturn, 1) := by decide +kernel
set_option maxRecDepth 20000 in
theorem ggX8_isLeastAlike_X8_inWay : GoodIn wsX8_isLeastAlike wsX8_inWay := goodIn_r _ [4, 5, 6, 3, 7, 8, 9, 10, 11, 12, 13] (by decide +kernel) (by decide +kernel)
set_option maxRecDepth 20000 in
theorem gX8_isLeastAlike_X8_inWay : GoodIn wsX8_isLeastAlike (va_wsS RX8 71 yX8_inWay wsX8_inWay) := goodIn_app (goodIn_of _ (by decide +kernel)) ggX8_isLeastAlike_X8_inWay
set_option maxRecDepth 20000 in
theorem ggX8_isLeastAlike_X8_allows : GoodIn wsX8_isLeastAlike wsX8_allows := goodIn_r _ [16] (by decide +kernel) (by decide +kernel)
set_option maxRecDepth 20000 in
theorem gX8_isLeastAlike_X8_allows : GoodIn wsX8_isLeastAlike (va_wsS RX8 68 yX8_allows wsX8_allows) := goodIn_app (goodIn_of _ (by decide +kernel)) ggX8_isLeastAlike_X8_allows
set_option maxRecDepth 20000 in
theorem ggX8_isLeastAlike_X8_turned : GoodIn wsX8_isLeastAlike wsX8_turned := goodIn_r _ [19] (by decide +kernel) (by decide +kernel)
set_option maxRecDepth 20000 in
theorem gX8_isLeastAlike_X8_turned : GoodIn wsX8_isLeastAlike (va_wsS RX8 9 yX8_turned wsX8_turned) := goodIn_app (goodIn_of _ (by decide +kernel)) ggX8_isLeastAlike_X8_turned
theorem dX8_isLeastAlike_0 : decode cX8_isLeastAlike 0 = .ok (.iconst 0, 1) := by decide +kernel
theorem dX8_isLeastAlike_1 : decode cX8_isLeastAlike 1 = .ok (.istore_n 3, 1) := by decide +kernel
theorem dX8_isLeastAlike_2 : decode cX8_isLeastAlike 2 = .ok (.iload_n 3, 1) := by decide +kernel
theorem dX8_isLeastAlike_3 : decode cX8_isLeastAlike 3 = .ok (.iconst 3, 1) := by decide +kernel
theorem dX8_isLeastAlike_4 : decode cX8_isLeastAlike 4 = .ok (.if_icmp .gt 56, 3) := by decide +kernel
theorem dX8_isLeastAlike_7 : decode cX8_isLeastAlike 7 = .ok (.iload_n 0, 1) := by decide +kernel
theorem dX8_isLeastAlike_8 : decode cX8_isLeastAlike 8 = .ok (.iload_n 1, 1) := by decide +kernel
theorem dX8_isLeastAlike_9 : decode cX8_isLeastAlike 9 = .ok (.iload_n 3, 1) := by decide +kernel
theorem dX8_isLeastAlike_10 : decode cX8_isLeastAlike 10 = .ok (.invokestatic 71, 3) := by decide +kernel
theorem dX8_isLeastAlike_13 : decode cX8_isLeastAlike 13 = .ok (.istore 4, 2) := by decide +kernel
theorem dX8_isLeastAlike_15 : decode cX8_isLeastAlike 15 = .ok (.iconst 0, 1) := by decide +kernel
theorem dX8_isLeastAlike_16 : decode cX8_isLeastAlike 16 = .ok (.istore 5, 2) := by decide +kernel
theorem dX8_isLeastAlike_18 : decode cX8_isLeastAlike 18 = .ok (.iload 5, 2) := by decide +kernel
theorem dX8_isLeastAlike_20 : decode cX8_isLeastAlike 20 = .ok (.iload_n 1, 1) := by decide +kernel
theorem dX8_isLeastAlike_21 : decode cX8_isLeastAlike 21 = .ok (.if_icmp .ge 33, 3) := by decide +kernel
theorem dX8_isLeastAlike_24 : decode cX8_isLeastAlike 24 = .ok (.iload_n 2, 1) := by decide +kernel
theorem dX8_isLeastAlike_25 : decode cX8_isLeastAlike 25 = .ok (.iload_n 3, 1) := by decide +kernel
theorem dX8_isLeastAlike_26 : decode cX8_isLeastAlike 26 = .ok (.invokestatic 68, 3) := by decide +kernel
theorem dX8_isLeastAlike_29 : decode cX8_isLeastAlike 29 = .ok (.ifCond .eq 25, 3) := by decide +kernel
theorem dX8_isLeastAlike_32 : decode cX8_isLeastAlike 32 = .ok (.iload 4, 2) := by decide +kernel
theorem dX8_isLeastAlike_34 : decode cX8_isLeastAlike 34 = .ok (.iload_n 0, 1) := by decide +kernel
theorem dX8_isLeastAlike_35 : decode cX8_isLeastAlike 35 = .ok (.if_icmp .ge 5, 3) := by decide +kernel
theorem dX8_isLeastAlike_38 : decode cX8_isLeastAlike 38 = .ok (.iconst 0, 1) := by decide +kernel
theorem dX8_isLeastAlike_39 : decode cX8_isLeastAlike 39 = .ok (.ireturn, 1) := by decide +kernel
theorem dX8_isLeastAlike_40 : decode cX8_isLeastAlike 40 = .ok (.iload 4, 2) := by decide +kernel
theorem dX8_isLeastAlike_42 : decode cX8_isLeastAlike 42 = .ok (.iload_n 1, 1) := by decide +kernel
theorem dX8_isLeastAlike_43 : decode cX8_isLeastAlike 43 = .ok (.invokestatic 9, 3) := by decide +kernel
theorem dX8_isLeastAlike_46 : decode cX8_isLeastAlike 46 = .ok (.istore 4, 2) := by decide +kernel
theorem dX8_isLeastAlike_48 : decode cX8_isLeastAlike 48 = .ok (.iinc 5 1, 3) := by decide +kernel
theorem dX8_isLeastAlike_51 : decode cX8_isLeastAlike 51 = .ok (.goto (-33), 3) := by decide +kernel
theorem dX8_isLeastAlike_54 : decode cX8_isLeastAlike 54 = .ok (.iinc 3 1, 3) := by decide +kernel
theorem dX8_isLeastAlike_57 : decode cX8_isLeastAlike 57 = .ok (.goto (-55), 3) := by decide +kernel
theorem dX8_isLeastAlike_60 : decode cX8_isLeastAlike 60 = .ok (.iconst 1, 1) := by decide +kernel
theorem dX8_isLeastAlike_61 : decode cX8_isLeastAlike 61 = .ok (.ireturn, 1) := by decide +kernel
set_option maxRecDepth 20000 in
theorem ggX8_countAlike_X8_allows : GoodIn wsX8_countAlike wsX8_allows := goodIn_r _ [4] (by decide +kernel) (by decide +kernel)
set_option maxRecDepth 20000 in
theorem gX8_countAlike_X8_allows : GoodIn wsX8_countAlike (va_wsS RX8 68 yX8_allows wsX8_allows) := goodIn_app (goodIn_of _ (by decide +kernel)) ggX8_countAlike_X8_allows
set_option maxRecDepth 20000 in
theorem ggX8_countAlike_X8_inWay : GoodIn wsX8_countAlike wsX8_inWay := goodIn_r _ [7, 8, 9, 3, 10, 11, 12, 13, 14, 15, 16] (by decide +kernel) (by decide +kernel)
set_option maxRecDepth 20000 in
theorem gX8_countAlike_X8_inWay : GoodIn wsX8_countAlike (va_wsS RX8 71 yX8_inWay wsX8_inWay) := goodIn_app (goodIn_of _ (by decide +kernel)) ggX8_countAlike_X8_inWay
set_option maxRecDepth 20000 in
theorem ggX8_countAlike_X8_leastTurned : GoodIn wsX8_countAlike wsX8_leastTurned := goodIn_r _ [19, 20, 21, 22, 23, 24, 25, 3, 26] (by decide +kernel) (by decide +kernel)
set_option maxRecDepth 20000 in
theorem gX8_countAlike_X8_leastTurned : GoodIn wsX8_countAlike (va_wsS RX8 74 yX8_leastTurned wsX8_leastTurned) := goodIn_app (goodIn_of _ (by decide +kernel)) ggX8_countAlike_X8_leastTurned
set_option maxRecDepth 20000 in
theorem ggX8_countAlike_X8_period : GoodIn wsX8_countAlike wsX8_period := goodIn_r _ [29, 24, 25, 3, 26] (by decide +kernel) (by decide +kernel)
set_option maxRecDepth 20000 in
theorem gX8_countAlike_X8_period : GoodIn wsX8_countAlike (va_wsS RX8 77 yX8_period wsX8_period) := goodIn_app (goodIn_of _ (by decide +kernel)) ggX8_countAlike_X8_period
theorem dX8_countAlike_0 : decode cX8_countAlike 0 = .ok (.iconst 0, 1) := by decide +kernel
theorem dX8_countAlike_1 : decode cX8_countAlike 1 = .ok (.istore_n 3, 1) := by decide +kernel
theorem dX8_countAlike_2 : decode cX8_countAlike 2 = .ok (.iconst 0, 1) := by decide +kernel
theorem dX8_countAlike_3 : decode cX8_countAlike 3 = .ok (.istore 4, 2) := by decide +kernel
theorem dX8_countAlike_5 : decode cX8_countAlike 5 = .ok (.iload 4, 2) := by decide +kernel
theorem dX8_countAlike_7 : decode cX8_countAlike 7 = .ok (.iconst 3, 1) := by decide +kernel
theorem dX8_countAlike_8 : decode cX8_countAlike 8 = .ok (.if_icmp .gt 92, 3) := by decide +kernel
theorem dX8_countAlike_11 : decode cX8_countAlike 11 = .ok (.iload_n 2, 1) := by decide +kernel
theorem dX8_countAlike_12 : decode cX8_countAlike 12 = .ok (.iload 4, 2) := by decide +kernel
theorem dX8_countAlike_14 : decode cX8_countAlike 14 = .ok (.invokestatic 68, 3) := by decide +kernel
theorem dX8_countAlike_17 : decode cX8_countAlike 17 = .ok (.istore 5, 2) := by decide +kernel
theorem dX8_countAlike_19 : decode cX8_countAlike 19 = .ok (.iconst 0, 1) := by decide +kernel
theorem dX8_countAlike_20 : decode cX8_countAlike 20 = .ok (.istore 6, 2) := by decide +kernel
theorem dX8_countAlike_22 : decode cX8_countAlike 22 = .ok (.iload 6, 2) := by decide +kernel
theorem dX8_countAlike_24 : decode cX8_countAlike 24 = .ok (.iload 4, 2) := by decide +kernel
theorem dX8_countAlike_26 : decode cX8_countAlike 26 = .ok (.if_icmp .ge 55, 3) := by decide +kernel
theorem dX8_countAlike_29 : decode cX8_countAlike 29 = .ok (.iload 5, 2) := by decide +kernel
theorem dX8_countAlike_31 : decode cX8_countAlike 31 = .ok (.ifCond .eq 50, 3) := by decide +kernel
theorem dX8_countAlike_34 : decode cX8_countAlike 34 = .ok (.iload_n 2, 1) := by decide +kernel
theorem dX8_countAlike_35 : decode cX8_countAlike 35 = .ok (.iload 6, 2) := by decide +kernel
theorem dX8_countAlike_37 : decode cX8_countAlike 37 = .ok (.invokestatic 68, 3) := by decide +kernel
theorem dX8_countAlike_40 : decode cX8_countAlike 40 = .ok (.ifCond .eq 28, 3) := by decide +kernel
theorem dX8_countAlike_43 : decode cX8_countAlike 43 = .ok (.iload_n 0, 1) := by decide +kernel
theorem dX8_countAlike_44 : decode cX8_countAlike 44 = .ok (.iload_n 1, 1) := by decide +kernel
theorem dX8_countAlike_45 : decode cX8_countAlike 45 = .ok (.iload 6, 2) := by decide +kernel
theorem dX8_countAlike_47 : decode cX8_countAlike 47 = .ok (.invokestatic 71, 3) := by decide +kernel
theorem dX8_countAlike_50 : decode cX8_countAlike 50 = .ok (.iload_n 1, 1) := by decide +kernel
theorem dX8_countAlike_51 : decode cX8_countAlike 51 = .ok (.invokestatic 74, 3) := by decide +kernel
theorem dX8_countAlike_54 : decode cX8_countAlike 54 = .ok (.iload_n 0, 1) := by decide +kernel
theorem dX8_countAlike_55 : decode cX8_countAlike 55 = .ok (.iload_n 1, 1) := by decide +kernel
theorem dX8_countAlike_56 : decode cX8_countAlike 56 = .ok (.iload 4, 2) := by decide +kernel
theorem dX8_countAlike_58 : decode cX8_countAlike 58 = .ok (.invokestatic 71, 3) := by decide +kernel
theorem dX8_countAlike_61 : decode cX8_countAlike 61 = .ok (.iload_n 1, 1) := by decide +kernel
theorem dX8_countAlike_62 : decode cX8_countAlike 62 = .ok (.invokestatic 74, 3) := by decide +kernel
theorem dX8_countAlike_65 : decode cX8_countAlike 65 = .ok (.if_icmp .eq 7, 3) := by decide +kernel
theorem dX8_countAlike_68 : decode cX8_countAlike 68 = .ok (.iconst 1, 1) := by decide +kernel
theorem dX8_countAlike_69 : decode cX8_countAlike 69 = .ok (.goto 4, 3) := by decide +kernel
theorem dX8_countAlike_72 : decode cX8_countAlike 72 = .ok (.iconst 0, 1) := by decide +kernel
theorem dX8_countAlike_73 : decode cX8_countAlike 73 = .ok (.istore 5, 2) := by decide +kernel
theorem dX8_countAlike_75 : decode cX8_countAlike 75 = .ok (.iinc 6 1, 3) := by decide +kernel
theorem dX8_countAlike_78 : decode cX8_countAlike 78 = .ok (.goto (-56), 3) := by decide +kernel
theorem dX8_countAlike_81 : decode cX8_countAlike 81 = .ok (.iload_n 3, 1) := by decide +kernel
theorem dX8_countAlike_82 : decode cX8_countAlike 82 = .ok (.iload 5, 2) := by decide +kernel
theorem dX8_countAlike_84 : decode cX8_countAlike 84 = .ok (.ifCond .eq 7, 3) := by decide +kernel
theorem dX8_countAlike_87 : decode cX8_countAlike 87 = .ok (.iconst 1, 1) := by decide +kernel
theorem dX8_countAlike_88 : decode cX8_countAlike 88 = .ok (.goto 4, 3) := by decide +kernel
theorem dX8_countAlike_91 : decode cX8_countAlike 91 = .ok (.iconst 0, 1) := by decide +kernel
theorem dX8_countAlike_92 : decode cX8_countAlike 92 = .ok (.iadd, 1) := by decide +kernel
theorem dX8_countAlike_93 : decode cX8_countAlike 93 = .ok (.istore_n 3, 1) := by decide +kernel
theorem dX8_countAlike_94 : decode cX8_countAlike 94 = .ok (.iinc 4 1, 3) := by decide +kernel
theorem dX8_countAlike_97 : decode cX8_countAlike 97 = .ok (.goto (-92), 3) := by decide +kernel
theorem dX8_countAlike_100 : decode cX8_countAlike 100 = .ok (.iload_n 3, 1) := by decide +kernel
theorem dX8_countAlike_101 : decode cX8_countAlike 101 = .ok (.iload_n 0, 1) := by decide +kernel
theorem dX8_countAlike_102 : decode cX8_countAlike 102 = .ok (.iload_n 1, 1) := by decide +kernel
theorem dX8_countAlike_103 : decode cX8_countAlike 103 = .ok (.invokestatic 77, 3) := by decide +kernel
theorem dX8_countAlike_106 : decode cX8_countAlike 106 = .ok (.imul, 1) := by decide +kernel
theorem dX8_countAlike_107 : decode cX8_countAlike 107 = .ok (.ireturn, 1) := by decide +kernel
set_option maxRecDepth 20000 in
theorem ggX8_fewestSlips_X8_inWay : GoodIn wsX8_fewestSlips wsX8_inWay := goodIn_r _ [8, 9, 10, 7, 11, 12, 13, 14, 15, 16, 17] (by decide +kernel) (by decide +kernel)
set_option maxRecDepth 20000 in
theorem gX8_fewestSlips_X8_inWay : GoodIn wsX8_fewestSlips (va_wsS RX8 71 yX8_inWay wsX8_inWay) := goodIn_app (goodIn_of _ (by decide +kernel)) ggX8_fewestSlips_X8_inWay
set_option maxRecDepth 20000 in
theorem ggX8_fewestSlips_X8_allows : GoodIn wsX8_fewestSlips wsX8_allows := goodIn_r _ [20] (by decide +kernel) (by decide +kernel)
set_option maxRecDepth 20000 in
theorem gX8_fewestSlips_X8_allows : GoodIn wsX8_fewestSlips (va_wsS RX8 68 yX8_allows wsX8_allows) := goodIn_app (goodIn_of _ (by decide +kernel)) ggX8_fewestSlips_X8_allows
set_option maxRecDepth 20000 in
theorem ggX8_fewestSlips_J6_bitCount_0f7a4 : GoodIn wsX8_fewestSlips wsJ6_bitCount_0f7a4 := goodIn_r _ [24, 25, 26, 27] (by decide +kernel) (by decide +kernel)
set_option maxRecDepth 20000 in
theorem gX8_fewestSlips_J6_bitCount_0f7a4 : GoodIn wsX8_fewestSlips (va_wsS RX8 22 yJ6_bitCount_0f7a4 wsJ6_bitCount_0f7a4) := goodIn_app (goodIn_of _ (by decide +kernel)) ggX8_fewestSlips_J6_bitCount_0f7a4
set_option maxRecDepth 20000 in
theorem ggX8_fewestSlips_X8_turned : GoodIn wsX8_fewestSlips wsX8_turned := goodIn_r _ [30] (by decide +kernel) (by decide +kernel)
set_option maxRecDepth 20000 in
theorem gX8_fewestSlips_X8_turned : GoodIn wsX8_fewestSlips (va_wsS RX8 9 yX8_turned wsX8_turned) := goodIn_app (goodIn_of _ (by decide +kernel)) ggX8_fewestSlips_X8_turned
theorem dX8_fewestSlips_0 : decode cX8_fewestSlips 0 = .ok (.iload_n 2, 1) := by decide +kernel
theorem dX8_fewestSlips_1 : decode cX8_fewestSlips 1 = .ok (.istore 4, 2) := by decide +kernel
theorem dX8_fewestSlips_3 : decode cX8_fewestSlips 3 = .ok (.iconst 0, 1) := by decide +kernel
theorem dX8_fewestSlips_4 : decode cX8_fewestSlips 4 = .ok (.istore 5, 2) := by decide +kernel
theorem dX8_fewestSlips_6 : decode cX8_fewestSlips 6 = .ok (.iload 5, 2) := by decide +kernel
theorem dX8_fewestSlips_8 : decode cX8_fewestSlips 8 = .ok (.iconst 3, 1) := by decide +kernel
theorem dX8_fewestSlips_9 : decode cX8_fewestSlips 9 = .ok (.if_icmp .gt 64, 3) := by decide +kernel
theorem dX8_fewestSlips_12 : decode cX8_fewestSlips 12 = .ok (.iload_n 1, 1) := by decide +kernel
theorem dX8_fewestSlips_13 : decode cX8_fewestSlips 13 = .ok (.iload_n 2, 1) := by decide +kernel
theorem dX8_fewestSlips_14 : decode cX8_fewestSlips 14 = .ok (.iload 5, 2) := by decide +kernel
theorem dX8_fewestSlips_16 : decode cX8_fewestSlips 16 = .ok (.invokestatic 71, 3) := by decide +kernel
theorem dX8_fewestSlips_19 : decode cX8_fewestSlips 19 = .ok (.istore 6, 2) := by decide +kernel
theorem dX8_fewestSlips_21 : decode cX8_fewestSlips 21 = .ok (.iconst 0, 1) := by decide +kernel
theorem dX8_fewestSlips_22 : decode cX8_fewestSlips 22 = .ok (.istore 7, 2) := by decide +kernel
theorem dX8_fewestSlips_24 : decode cX8_fewestSlips 24 = .ok (.iload 7, 2) := by decide +kernel
theorem dX8_fewestSlips_26 : decode cX8_fewestSlips 26 = .ok (.iload_n 2, 1) := by decide +kernel
theorem dX8_fewestSlips_27 : decode cX8_fewestSlips 27 = .ok (.if_icmp .ge 40, 3) := by decide +kernel
theorem dX8_fewestSlips_30 : decode cX8_fewestSlips 30 = .ok (.iload_n 3, 1) := by decide +kernel
theorem dX8_fewestSlips_31 : decode cX8_fewestSlips 31 = .ok (.iload 5, 2) := by decide +kernel
theorem dX8_fewestSlips_33 : decode cX8_fewestSlips 33 = .ok (.invokestatic 68, 3) := by decide +kernel
theorem dX8_fewestSlips_36 : decode cX8_fewestSlips 36 = .ok (.ifCond .eq 31, 3) := by decide +kernel
theorem dX8_fewestSlips_39 : decode cX8_fewestSlips 39 = .ok (.iload 4, 2) := by decide +kernel
theorem dX8_fewestSlips_41 : decode cX8_fewestSlips 41 = .ok (.iload_n 0, 1) := by decide +kernel
theorem dX8_fewestSlips_42 : decode cX8_fewestSlips 42 = .ok (.iload 6, 2) := by decide +kernel
theorem dX8_fewestSlips_44 : decode cX8_fewestSlips 44 = .ok (.ixor, 1) := by decide +kernel
theorem dX8_fewestSlips_45 : decode cX8_fewestSlips 45 = .ok (.invokestatic 22, 3) := by decide +kernel
theorem dX8_fewestSlips_48 : decode cX8_fewestSlips 48 = .ok (.invokestatic 65, 3) := by decide +kernel
theorem dX8_fewestSlips_51 : decode cX8_fewestSlips 51 = .ok (.istore 4, 2) := by decide +kernel
theorem dX8_fewestSlips_53 : decode cX8_fewestSlips 53 = .ok (.iload 6, 2) := by decide +kernel
theorem dX8_fewestSlips_55 : decode cX8_fewestSlips 55 = .ok (.iload_n 2, 1) := by decide +kernel
theorem dX8_fewestSlips_56 : decode cX8_fewestSlips 56 = .ok (.invokestatic 9, 3) := by decide +kernel
theorem dX8_fewestSlips_59 : decode cX8_fewestSlips 59 = .ok (.istore 6, 2) := by decide +kernel
theorem dX8_fewestSlips_61 : decode cX8_fewestSlips 61 = .ok (.iinc 7 1, 3) := by decide +kernel
theorem dX8_fewestSlips_64 : decode cX8_fewestSlips 64 = .ok (.goto (-40), 3) := by decide +kernel
theorem dX8_fewestSlips_67 : decode cX8_fewestSlips 67 = .ok (.iinc 5 1, 3) := by decide +kernel
theorem dX8_fewestSlips_70 : decode cX8_fewestSlips 70 = .ok (.goto (-64), 3) := by decide +kernel
theorem dX8_fewestSlips_73 : decode cX8_fewestSlips 73 = .ok (.iload 4, 2) := by decide +kernel
theorem dX8_fewestSlips_75 : decode cX8_fewestSlips 75 = .ok (.ireturn, 1) := by decide +kernel
theorem dX9_init_0 : decode cX9_init 0 = .ok (.aload_n 0, 1) := by decide +kernel
theorem dX9_init_1 : decode cX9_init 1 = .ok (.invokespecial 3, 3) := by decide +kernel
theorem dX9_init_4 : decode cX9_init 4 = .ok (.aload_n 0, 1) := by decide +kernel
theorem dX9_init_5 : decode cX9_init 5 = .ok (.iconst 5, 1) := by decide +kernel
theorem dX9_init_6 : decode cX9_init 6 = .ok (.newarray .int, 2) := by decide +kernel
theorem dX9_init_8 : decode cX9_init 8 = .ok (.putfield 9, 3) := by decide +kernel
theorem dX9_init_11 : decode cX9_init 11 = .ok (.aload_n 0, 1) := by decide +kernel
theorem dX9_init_12 : decode cX9_init 12 = .ok (.iconst 5, 1) := by decide +kernel
theorem dX9_init_13 : decode cX9_init 13 = .ok (.newarray .int, 2) := by decide +kernel
theorem dX9_init_15 : decode cX9_init 15 = .ok (.putfield 15, 3) := by decide +kernel
theorem dX9_init_18 : decode cX9_init 18 = .ok (.return_, 1) := by decide +kernel
set_option maxRecDepth 20000 in
theorem ggX9_row_X11_at : GoodIn wsX9_row wsX11_at := goodIn_r _ [4] (by decide +kernel) (by decide +kernel)
set_option maxRecDepth 20000 in
theorem gX9_row_X11_at_n18 : GoodIn wsX9_row (wsX11_at) := ggX9_row_X11_at
theorem dX9_row_0 : decode cX9_row 0 = .ok (.aload_n 0, 1) := by decide +kernel
theorem dX9_row_1 : decode cX9_row 1 = .ok (.getfield 9, 3) := by decide +kernel
theorem dX9_row_4 : decode cX9_row 4 = .ok (.iload_n 1, 1) := by decide +kernel
theorem dX9_row_5 : decode cX9_row 5 = .ok (.invokestatic 18, 3) := by decide +kernel
theorem dX9_row_8 : decode cX9_row 8 = .ok (.ireturn, 1) := by decide +kernel
set_option maxRecDepth 20000 in
theorem ggX9_steps_X11_at : GoodIn wsX9_steps wsX11_at := goodIn_r _ [4] (by decide +kernel) (by decide +kernel)
set_option maxRecDepth 20000 in
theorem gX9_steps_X11_at_n18 : GoodIn wsX9_steps (wsX11_at) := ggX9_steps_X11_at
theorem dX9_steps_0 : decode cX9_steps 0 = .ok (.aload_n 0, 1) := by decide +kernel
theorem dX9_steps_1 : decode cX9_steps 1 = .ok (.getfield 15, 3) := by decide +kernel
theorem dX9_steps_4 : decode cX9_steps 4 = .ok (.iload_n 1, 1) := by decide +kernel
theorem dX9_steps_5 : decode cX9_steps 5 = .ok (.invokestatic 18, 3) := by decide +kernel
theorem dX9_steps_8 : decode cX9_steps 8 = .ok (.ireturn, 1) := by decide +kernel
set_option maxRecDepth 20000 in
theorem ggX9_put_X11_set : GoodIn wsX9_put wsX11_set := goodIn_r _ [5] (by decide +kernel) (by decide +kernel)
set_option maxRecDepth 20000 in
theorem gX9_put_X11_set_n22 : GoodIn wsX9_put (wsX11_set) := ggX9_put_X11_set
theorem dX9_put_0 : decode cX9_put 0 = .ok (.aload_n 0, 1) := by decide +kernel
theorem dX9_put_1 : decode cX9_put 1 = .ok (.getfield 9, 3) := by decide +kernel
theorem dX9_put_4 : decode cX9_put 4 = .ok (.iload_n 1, 1) := by decide +kernel
theorem dX9_put_5 : decode cX9_put 5 = .ok (.iload_n 2, 1) := by decide +kernel
theorem dX9_put_6 : decode cX9_put 6 = .ok (.invokestatic 22, 3) := by decide +kernel
theorem dX9_put_9 : decode cX9_put 9 = .ok (.aload_n 0, 1) := by decide +kernel
theorem dX9_put_10 : decode cX9_put 10 = .ok (.getfield 15, 3) := by decide +kernel
theorem dX9_put_13 : decode cX9_put 13 = .ok (.iload_n 1, 1) := by decide +kernel
theorem dX9_put_14 : decode cX9_put 14 = .ok (.iload_n 3, 1) := by decide +kernel
theorem dX9_put_15 : decode cX9_put 15 = .ok (.invokestatic 22, 3) := by decide +kernel
theorem dX9_put_18 : decode cX9_put 18 = .ok (.return_, 1) := by decide +kernel
set_option maxRecDepth 20000 in
theorem ggX9_copy_X9_row : GoodIn wsX9_copy wsX9_row := goodIn_r _ [6, 7, 8, 9, 10, 22, 23, 24] (by decide +kernel) (by decide +kernel)
set_option maxRecDepth 20000 in
theorem gX9_copy_X9_row : GoodIn wsX9_copy (wsV RX9 30 RX9 yX9_row wsX9_row) := goodIn_app (goodIn_of _ (by decide +kernel)) ggX9_copy_X9_row
set_option maxRecDepth 20000 in
theorem ggX9_copy_X9_steps : GoodIn wsX9_copy wsX9_steps := goodIn_r _ [14, 15, 8, 9, 10, 22, 23, 24] (by decide +kernel) (by decide +kernel)
set_option maxRecDepth 20000 in
theorem gX9_copy_X9_steps : GoodIn wsX9_copy (wsV RX9 34 RX9 yX9_steps wsX9_steps) := goodIn_app (goodIn_of _ (by decide +kernel)) ggX9_copy_X9_steps
set_option maxRecDepth 20000 in
theorem ggX9_copy_X9_put : GoodIn wsX9_copy wsX9_put := goodIn_r _ [19, 7, 15, 20, 9, 21, 22, 23, 24] (by decide +kernel) (by decide +kernel)
set_option maxRecDepth 20000 in
theorem gX9_copy_X9_put : GoodIn wsX9_copy (wsV RX9 37 RX9 yX9_put wsX9_put) := goodIn_app (goodIn_of _ (by decide +kernel)) ggX9_copy_X9_put
theorem dX9_copy_0 : decode cX9_copy 0 = .ok (.aload_n 0, 1) := by decide +kernel
theorem dX9_copy_1 : decode cX9_copy 1 = .ok (.aload_n 1, 1) := by decide +kernel
theorem dX9_copy_2 : decode cX9_copy 2 = .ok (.getfield 26, 3) := by decide +kernel
theorem dX9_copy_5 : decode cX9_copy 5 = .ok (.putfield 26, 3) := by decide +kernel
theorem dX9_copy_8 : decode cX9_copy 8 = .ok (.iconst 0, 1) := by decide +kernel
theorem dX9_copy_9 : decode cX9_copy 9 = .ok (.istore_n 2, 1) := by decide +kernel
theorem dX9_copy_10 : decode cX9_copy 10 = .ok (.iload_n 2, 1) := by decide +kernel
theorem dX9_copy_11 : decode cX9_copy 11 = .ok (.iconst 5, 1) := by decide +kernel
theorem dX9_copy_12 : decode cX9_copy 12 = .ok (.if_icmp .ge 24, 3) := by decide +kernel
theorem dX9_copy_15 : decode cX9_copy 15 = .ok (.aload_n 0, 1) := by decide +kernel
theorem dX9_copy_16 : decode cX9_copy 16 = .ok (.iload_n 2, 1) := by decide +kernel
theorem dX9_copy_17 : decode cX9_copy 17 = .ok (.aload_n 1, 1) := by decide +kernel
theorem dX9_copy_18 : decode cX9_copy 18 = .ok (.iload_n 2, 1) := by decide +kernel
theorem dX9_copy_19 : decode cX9_copy 19 = .ok (.invokevirtual 30, 3) := by decide +kernel
theorem dX9_copy_22 : decode cX9_copy 22 = .ok (.aload_n 1, 1) := by decide +kernel
theorem dX9_copy_23 : decode cX9_copy 23 = .ok (.iload_n 2, 1) := by decide +kernel
theorem dX9_copy_24 : decode cX9_copy 24 = .ok (.invokevirtual 34, 3) := by decide +kernel
theorem dX9_copy_27 : decode cX9_copy 27 = .ok (.invokevirtual 37, 3) := by decide +kernel
theorem dX9_copy_30 : decode cX9_copy 30 = .ok (.iinc 2 1, 3) := by decide +kernel
theorem dX9_copy_33 : decode cX9_copy 33 = .ok (.goto (-23), 3) := by decide +kernel
theorem dX9_copy_36 : decode cX9_copy 36 = .ok (.return_, 1) := by decide +kernel
theorem dX10_init_0 : decode cX10_init 0 = .ok (.aload_n 0, 1) := by decide +kernel
theorem dX10_init_1 : decode cX10_init 1 = .ok (.invokespecial 1, 3) := by decide +kernel
theorem dX10_init_4 : decode cX10_init 4 = .ok (.aload_n 0, 1) := by decide +kernel
theorem dX10_init_5 : decode cX10_init 5 = .ok (.sipush 500, 3) := by decide +kernel
theorem dX10_init_8 : decode cX10_init 8 = .ok (.newarray .byte, 2) := by decide +kernel
theorem dX10_init_10 : decode cX10_init 10 = .ok (.putfield 9, 3) := by decide +kernel
theorem dX10_init_13 : decode cX10_init 13 = .ok (.return_, 1) := by decide +kernel
theorem dX10_hasRoom_0 : decode cX10_hasRoom 0 = .ok (.aload_n 0, 1) := by decide +kernel
theorem dX10_hasRoom_1 : decode cX10_hasRoom 1 = .ok (.getfield 13, 3) := by decide +kernel
theorem dX10_hasRoom_4 : decode cX10_hasRoom 4 = .ok (.iload_n 1, 1) := by decide +kernel
theorem dX10_hasRoom_5 : decode cX10_hasRoom 5 = .ok (.iadd, 1) := by decide +kernel
theorem dX10_hasRoom_6 : decode cX10_hasRoom 6 = .ok (.sipush 500, 3) := by decide +kernel
theorem dX10_hasRoom_9 : decode cX10_hasRoom 9 = .ok (.if_icmp .gt 7, 3) := by decide +kernel
theorem dX10_hasRoom_12 : decode cX10_hasRoom 12 = .ok (.iconst 1, 1) := by decide +kernel
theorem dX10_hasRoom_13 : decode cX10_hasRoom 13 = .ok (.goto 4, 3) := by decide +kernel
theorem dX10_hasRoom_16 : decode cX10_hasRoom 16 = .ok (.iconst 0, 1) := by decide +kernel
theorem dX10_hasRoom_17 : decode cX10_hasRoom 17 = .ok (.ireturn, 1) := by decide +kernel
theorem dX10_addNumber_0 : decode cX10_addNumber 0 = .ok (.bipush 24, 2) := by decide +kernel
theorem dX10_addNumber_2 : decode cX10_addNumber 2 = .ok (.istore_n 2, 1) := by decide +kernel
theorem dX10_addNumber_3 : decode cX10_addNumber 3 = .ok (.iload_n 2, 1) := by decide +kernel
theorem dX10_addNumber_4 : decode cX10_addNumber 4 = .ok (.ifCond .lt 51, 3) := by decide +kernel
theorem dX10_addNumber_7 : decode cX10_addNumber 7 = .ok (.aload_n 0, 1) := by decide +kernel
theorem dX10_addNumber_8 : decode cX10_addNumber 8 = .ok (.getfield 13, 3) := by decide +kernel
theorem dX10_addNumber_11 : decode cX10_addNumber 11 = .ok (.ifCond .lt 38, 3) := by decide +kernel
theorem dX10_addNumber_14 : decode cX10_addNumber 14 = .ok (.aload_n 0, 1) := by decide +kernel
theorem dX10_addNumber_15 : decode cX10_addNumber 15 = .ok (.getfield 13, 3) := by decide +kernel
theorem dX10_addNumber_18 : decode cX10_addNumber 18 = .ok (.aload_n 0, 1) := by decide +kernel
theorem dX10_addNumber_19 : decode cX10_addNumber 19 = .ok (.getfield 9, 3) := by decide +kernel
theorem dX10_addNumber_22 : decode cX10_addNumber 22 = .ok (.arraylength, 1) := by decide +kernel
theorem dX10_addNumber_23 : decode cX10_addNumber 23 = .ok (.if_icmp .ge 26, 3) := by decide +kernel
theorem dX10_addNumber_26 : decode cX10_addNumber 26 = .ok (.aload_n 0, 1) := by decide +kernel
theorem dX10_addNumber_27 : decode cX10_addNumber 27 = .ok (.getfield 9, 3) := by decide +kernel
theorem dX10_addNumber_30 : decode cX10_addNumber 30 = .ok (.aload_n 0, 1) := by decide +kernel
theorem dX10_addNumber_31 : decode cX10_addNumber 31 = .ok (.getfield 13, 3) := by decide +kernel
theorem dX10_addNumber_34 : decode cX10_addNumber 34 = .ok (.iload_n 1, 1) := by decide +kernel
theorem dX10_addNumber_35 : decode cX10_addNumber 35 = .ok (.iload_n 2, 1) := by decide +kernel
theorem dX10_addNumber_36 : decode cX10_addNumber 36 = .ok (.ishr, 1) := by decide +kernel
theorem dX10_addNumber_37 : decode cX10_addNumber 37 = .ok (.i2b, 1) := by decide +kernel
theorem dX10_addNumber_38 : decode cX10_addNumber 38 = .ok (.bastore, 1) := by decide +kernel
theorem dX10_addNumber_39 : decode cX10_addNumber 39 = .ok (.aload_n 0, 1) := by decide +kernel
theorem dX10_addNumber_40 : decode cX10_addNumber 40 = .ok (.dup, 1) := by decide +kernel
theorem dX10_addNumber_41 : decode cX10_addNumber 41 = .ok (.getfield 13, 3) := by decide +kernel
theorem dX10_addNumber_44 : decode cX10_addNumber 44 = .ok (.iconst 1, 1) := by decide +kernel
theorem dX10_addNumber_45 : decode cX10_addNumber 45 = .ok (.iadd, 1) := by decide +kernel
theorem dX10_addNumber_46 : decode cX10_addNumber 46 = .ok (.putfield 13, 3) := by decide +kernel
theorem dX10_addNumber_49 : decode cX10_addNumber 49 = .ok (.iinc 2 (-8), 3) := by decide +kernel
theorem dX10_addNumber_52 : decode cX10_addNumber 52 = .ok (.goto (-49), 3) := by decide +kernel
theorem dX10_addNumber_55 : decode cX10_addNumber 55 = .ok (.return_, 1) := by decide +kernel
theorem dX10_byteAt_0 : decode cX10_byteAt 0 = .ok (.iload_n 1, 1) := by decide +kernel
theorem dX10_byteAt_1 : decode cX10_byteAt 1 = .ok (.ifCond .lt 25, 3) := by decide +kernel
theorem dX10_byteAt_4 : decode cX10_byteAt 4 = .ok (.iload_n 1, 1) := by decide +kernel
theorem dX10_byteAt_5 : decode cX10_byteAt 5 = .ok (.aload_n 0, 1) := by decide +kernel
theorem dX10_byteAt_6 : decode cX10_byteAt 6 = .ok (.getfield 9, 3) := by decide +kernel
theorem dX10_byteAt_9 : decode cX10_byteAt 9 = .ok (.arraylength, 1) := by decide +kernel
theorem dX10_byteAt_10 : decode cX10_byteAt 10 = .ok (.if_icmp .ge 16, 3) := by decide +kernel
theorem dX10_byteAt_13 : decode cX10_byteAt 13 = .ok (.aload_n 0, 1) := by decide +kernel
theorem dX10_byteAt_14 : decode cX10_byteAt 14 = .ok (.getfield 9, 3) := by decide +kernel
theorem dX10_byteAt_17 : decode cX10_byteAt 17 = .ok (.iload_n 1, 1) := by decide +kernel
theorem dX10_byteAt_18 : decode cX10_byteAt 18 = .ok (.baload, 1) := by decide +kernel
theorem dX10_byteAt_19 : decode cX10_byteAt 19 = .ok (.sipush 255, 3) := by decide +kernel
theorem dX10_byteAt_22 : decode cX10_byteAt 22 = .ok (.iand, 1) := by decide +kernel
theorem dX10_byteAt_23 : decode cX10_byteAt 23 = .ok (.goto 4, 3) := by decide +kernel
theorem dX10_byteAt_26 : decode cX10_byteAt 26 = .ok (.iconst 0, 1) := by decide +kernel
theorem dX10_byteAt_27 : decode cX10_byteAt 27 = .ok (.ireturn, 1) := by decide +kernel
set_option maxRecDepth 20000 in
theorem ggX11_init_X10_init : GoodIn wsX11_init wsX10_init := goodIn_r _ [38, 39, 2, 3, 40, 41, 88, 89] (by decide +kernel) (by decide +kernel)
set_option maxRecDepth 20000 in
theorem gX11_init_X10_init_n9 : GoodIn wsX11_init (wsX10_init) := ggX11_init_X10_init
set_option maxRecDepth 20000 in
theorem ggX11_init_X7_init : GoodIn wsX11_init wsX7_init := goodIn_r _ [44, 45, 2, 3, 46, 102, 103, 104, 105, 106, 107, 108, 109, 110, 111] (by decide +kernel) (by decide +kernel)
set_option maxRecDepth 20000 in
theorem gX11_init_X7_init : GoodIn wsX11_init (wsX7_init) := ggX11_init_X7_init
set_option maxRecDepth 20000 in
theorem ggX11_init_X9_init : GoodIn wsX11_init wsX9_init := goodIn_r _ [48, 49, 2, 3, 50, 51, 52, 112, 113, 114] (by decide +kernel) (by decide +kernel)
set_option maxRecDepth 20000 in
theorem gX11_init_X9_init_n27 : GoodIn wsX11_init (wsX9_init) := ggX11_init_X9_init
set_option maxRecDepth 20000 in
theorem ggX11_init_X0_init : GoodIn wsX11_init wsX0_init := goodIn_r _ [54, 55, 2, 3, 50, 56, 57, 58, 115, 116, 117, 118] (by decide +kernel) (by decide +kernel)
set_option maxRecDepth 20000 in
theorem gX11_init_X0_init_n34 : GoodIn wsX11_init (wsX0_init) := ggX11_init_X0_init
set_option maxRecDepth 20000 in
theorem ggX11_init_X3_init : GoodIn wsX11_init wsX3_init := goodIn_r _ [60, 61, 2, 3, 50, 62, 63, 119, 120, 121] (by decide +kernel) (by decide +kernel)
set_option maxRecDepth 20000 in
theorem gX11_init_X3_init_n41 : GoodIn wsX11_init (wsX3_init) := ggX11_init_X3_init
set_option maxRecDepth 20000 in
theorem ggX11_init_X6_init : GoodIn wsX11_init wsX6_init := goodIn_r _ [65, 66, 2, 3, 50, 67, 68, 122, 123] (by decide +kernel) (by decide +kernel)
set_option maxRecDepth 20000 in
theorem gX11_init_X6_init_n48 : GoodIn wsX11_init (wsX6_init) := ggX11_init_X6_init
set_option maxRecDepth 20000 in
theorem ggX11_init_X5_init : GoodIn wsX11_init wsX5_init := goodIn_r _ [70, 71, 2, 3, 50, 72, 73, 74, 75, 124, 125, 126, 127, 128, 129, 130, 131, 132] (by decide +kernel) (by decide +kernel)
set_option maxRecDepth 20000 in
theorem gX11_init_X5_init_n55 : GoodIn wsX11_init (wsX5_init) := ggX11_init_X5_init
set_option maxRecDepth 20000 in
theorem ggX11_init_X4_init : GoodIn wsX11_init wsX4_init := goodIn_r _ [77, 78, 2, 3, 79, 13, 14, 80, 81, 82, 50, 83, 84, 85, 86, 87, 47, 48, 49, 51, 52, 112, 113, 114, 133, 134, 135, 136, 137, 138, 139, 140, 141, 142, 143, 144, 145, 146] (by decide +kernel) (by decide +kernel)
set_option maxRecDepth 20000 in
theorem gX11_init_X4_init_n62 : GoodIn wsX11_init (wsX4_init) := ggX11_init_X4_init
theorem dX11_init_0 : decode cX11_init 0 = .ok (.aload_n 0, 1) := by decide +kernel
theorem dX11_init_1 : decode cX11_init 1 = .ok (.invokespecial 1, 3) := by decide +kernel
theorem dX11_init_4 : decode cX11_init 4 = .ok (.aload_n 0, 1) := by decide +kernel
theorem dX11_init_5 : decode cX11_init 5 = .ok (.new 7, 3) := by decide +kernel
theorem dX11_init_8 : decode cX11_init 8 = .ok (.dup, 1) := by decide +kernel
theorem dX11_init_9 : decode cX11_init 9 = .ok (.invokespecial 9, 3) := by decide +kernel
theorem dX11_init_12 : decode cX11_init 12 = .ok (.putfield 10, 3) := by decide +kernel
theorem dX11_init_15 : decode cX11_init 15 = .ok (.aload_n 0, 1) := by decide +kernel
theorem dX11_init_16 : decode cX11_init 16 = .ok (.new 16, 3) := by decide +kernel
theorem dX11_init_19 : decode cX11_init 19 = .ok (.dup, 1) := by decide +kernel
theorem dX11_init_20 : decode cX11_init 20 = .ok (.aload_n 0, 1) := by decide +kernel
theorem dX11_init_21 : decode cX11_init 21 = .ok (.getfield 10, 3) := by decide +kernel
theorem dX11_init_24 : decode cX11_init 24 = .ok (.invokespecial 18, 3) := by decide +kernel
theorem dX11_init_27 : decode cX11_init 27 = .ok (.putfield 21, 3) := by decide +kernel
theorem dX11_init_30 : decode cX11_init 30 = .ok (.aload_n 0, 1) := by decide +kernel
theorem dX11_init_31 : decode cX11_init 31 = .ok (.new 25, 3) := by decide +kernel
theorem dX11_init_34 : decode cX11_init 34 = .ok (.dup, 1) := by decide +kernel
theorem dX11_init_35 : decode cX11_init 35 = .ok (.invokespecial 27, 3) := by decide +kernel
theorem dX11_init_38 : decode cX11_init 38 = .ok (.putfield 28, 3) := by decide +kernel
theorem dX11_init_41 : decode cX11_init 41 = .ok (.aload_n 0, 1) := by decide +kernel
theorem dX11_init_42 : decode cX11_init 42 = .ok (.new 32, 3) := by decide +kernel
theorem dX11_init_45 : decode cX11_init 45 = .ok (.dup, 1) := by decide +kernel
theorem dX11_init_46 : decode cX11_init 46 = .ok (.invokespecial 34, 3) := by decide +kernel
theorem dX11_init_49 : decode cX11_init 49 = .ok (.putfield 35, 3) := by decide +kernel
theorem dX11_init_52 : decode cX11_init 52 = .ok (.aload_n 0, 1) := by decide +kernel
theorem dX11_init_53 : decode cX11_init 53 = .ok (.new 39, 3) := by decide +kernel
theorem dX11_init_56 : decode cX11_init 56 = .ok (.dup, 1) := by decide +kernel
theorem dX11_init_57 : decode cX11_init 57 = .ok (.invokespecial 41, 3) := by decide +kernel
theorem dX11_init_60 : decode cX11_init 60 = .ok (.putfield 42, 3) := by decide +kernel
theorem dX11_init_63 : decode cX11_init 63 = .ok (.aload_n 0, 1) := by decide +kernel
theorem dX11_init_64 : decode cX11_init 64 = .ok (.new 46, 3) := by decide +kernel
theorem dX11_init_67 : decode cX11_init 67 = .ok (.dup, 1) := by decide +kernel
theorem dX11_init_68 : decode cX11_init 68 = .ok (.invokespecial 48, 3) := by decide +kernel
theorem dX11_init_71 : decode cX11_init 71 = .ok (.putfield 49, 3) := by decide +kernel
theorem dX11_init_74 : decode cX11_init 74 = .ok (.aload_n 0, 1) := by decide +kernel
theorem dX11_init_75 : decode cX11_init 75 = .ok (.new 53, 3) := by decide +kernel
theorem dX11_init_78 : decode cX11_init 78 = .ok (.dup, 1) := by decide +kernel
theorem dX11_init_79 : decode cX11_init 79 = .ok (.invokespecial 55, 3) := by decide +kernel
theorem dX11_init_82 : decode cX11_init 82 = .ok (.putfield 56, 3) := by decide +kernel
theorem dX11_init_85 : decode cX11_init 85 = .ok (.aload_n 0, 1) := by decide +kernel
theorem dX11_init_86 : decode cX11_init 86 = .ok (.new 60, 3) := by decide +kernel
theorem dX11_init_89 : decode cX11_init 89 = .ok (.dup, 1) := by decide +kernel
theorem dX11_init_90 : decode cX11_init 90 = .ok (.invokespecial 62, 3) := by decide +kernel
theorem dX11_init_93 : decode cX11_init 93 = .ok (.putfield 63, 3) := by decide +kernel
theorem dX11_init_96 : decode cX11_init 96 = .ok (.aload_n 0, 1) := by decide +kernel
theorem dX11_init_97 : decode cX11_init 97 = .ok (.new 60, 3) := by decide +kernel
theorem dX11_init_100 : decode cX11_init 100 = .ok (.dup, 1) := by decide +kernel
theorem dX11_init_101 : decode cX11_init 101 = .ok (.invokespecial 62, 3) := by decide +kernel
theorem dX11_init_104 : decode cX11_init 104 = .ok (.putfield 67, 3) := by decide +kernel
theorem dX11_init_107 : decode cX11_init 107 = .ok (.return_, 1) := by decide +kernel
set_option maxRecDepth 20000 in
theorem ggX11_feed_X10_hasRoom : GoodIn wsX11_feed wsX10_hasRoom := goodIn_r _ [6, 7, 25, 26] (by decide +kernel) (by decide +kernel)
set_option maxRecDepth 20000 in
theorem gX11_feed_X10_hasRoom : GoodIn wsX11_feed (wsV RX11 70 RX10 yX10_hasRoom wsX10_hasRoom) := goodIn_app (goodIn_of _ (by decide +kernel)) ggX11_feed_X10_hasRoom
set_option maxRecDepth 20000 in
theorem ggX11_feed_X10_addNumber : GoodIn wsX11_feed wsX10_addNumber := goodIn_r _ [11, 7, 12, 25, 26] (by decide +kernel) (by decide +kernel)
set_option maxRecDepth 20000 in
theorem gX11_feed_X10_addNumber : GoodIn wsX11_feed (wsV RX11 74 RX10 yX10_addNumber wsX10_addNumber) := goodIn_app (goodIn_of _ (by decide +kernel)) ggX11_feed_X10_addNumber
theorem dX11_feed_0 : decode cX11_feed 0 = .ok (.aload_n 0, 1) := by decide +kernel
theorem dX11_feed_1 : decode cX11_feed 1 = .ok (.getfield 10, 3) := by decide +kernel
theorem dX11_feed_4 : decode cX11_feed 4 = .ok (.bipush 20, 2) := by decide +kernel
theorem dX11_feed_6 : decode cX11_feed 6 = .ok (.invokevirtual 70, 3) := by decide +kernel
theorem dX11_feed_9 : decode cX11_feed 9 = .ok (.ifCond .ne 5, 3) := by decide +kernel
theorem dX11_feed_12 : decode cX11_feed 12 = .ok (.iconst (-1), 1) := by decide +kernel
theorem dX11_feed_13 : decode cX11_feed 13 = .ok (.ireturn, 1) := by decide +kernel
theorem dX11_feed_14 : decode cX11_feed 14 = .ok (.aload_n 0, 1) := by decide +kernel
theorem dX11_feed_15 : decode cX11_feed 15 = .ok (.getfield 10, 3) := by decide +kernel
theorem dX11_feed_18 : decode cX11_feed 18 = .ok (.iload_n 1, 1) := by decide +kernel
theorem dX11_feed_19 : decode cX11_feed 19 = .ok (.invokevirtual 74, 3) := by decide +kernel
theorem dX11_feed_22 : decode cX11_feed 22 = .ok (.aload_n 0, 1) := by decide +kernel
theorem dX11_feed_23 : decode cX11_feed 23 = .ok (.getfield 10, 3) := by decide +kernel
theorem dX11_feed_26 : decode cX11_feed 26 = .ok (.iload_n 2, 1) := by decide +kernel
theorem dX11_feed_27 : decode cX11_feed 27 = .ok (.invokevirtual 74, 3) := by decide +kernel
theorem dX11_feed_30 : decode cX11_feed 30 = .ok (.aload_n 0, 1) := by decide +kernel
theorem dX11_feed_31 : decode cX11_feed 31 = .ok (.getfield 10, 3) := by decide +kernel
theorem dX11_feed_34 : decode cX11_feed 34 = .ok (.iload_n 3, 1) := by decide +kernel
theorem dX11_feed_35 : decode cX11_feed 35 = .ok (.invokevirtual 74, 3) := by decide +kernel
theorem dX11_feed_38 : decode cX11_feed 38 = .ok (.aload_n 0, 1) := by decide +kernel
theorem dX11_feed_39 : decode cX11_feed 39 = .ok (.getfield 10, 3) := by decide +kernel
theorem dX11_feed_42 : decode cX11_feed 42 = .ok (.iload 4, 2) := by decide +kernel
theorem dX11_feed_44 : decode cX11_feed 44 = .ok (.invokevirtual 74, 3) := by decide +kernel
theorem dX11_feed_47 : decode cX11_feed 47 = .ok (.aload_n 0, 1) := by decide +kernel
theorem dX11_feed_48 : decode cX11_feed 48 = .ok (.getfield 10, 3) := by decide +kernel
theorem dX11_feed_51 : decode cX11_feed 51 = .ok (.iload 5, 2) := by decide +kernel
theorem dX11_feed_53 : decode cX11_feed 53 = .ok (.invokevirtual 74, 3) := by decide +kernel
theorem dX11_feed_56 : decode cX11_feed 56 = .ok (.aload_n 0, 1) := by decide +kernel
theorem dX11_feed_57 : decode cX11_feed 57 = .ok (.getfield 10, 3) := by decide +kernel
theorem dX11_feed_60 : decode cX11_feed 60 = .ok (.getfield 78, 3) := by decide +kernel
theorem dX11_feed_63 : decode cX11_feed 63 = .ok (.ireturn, 1) := by decide +kernel
set_option maxRecDepth 20000 in
theorem ggX11_lab_X11_refused : GoodIn wsX11_lab wsX11_refused := goodIn_r _ [14, 15, 233, 234, 235, 236, 237, 238, 239, 240, 241, 242, 243, 244] (by decide +kernel) (by decide +kernel)
set_option maxRecDepth 20000 in
theorem gX11_lab_X11_refused : GoodIn wsX11_lab (wsV RX11 82 RX11 yX11_refused wsX11_refused) := goodIn_app (goodIn_of _ (by decide +kernel)) ggX11_lab_X11_refused
set_option maxRecDepth 20000 in
theorem ggX11_lab_X7_reads : GoodIn wsX11_lab wsX7_reads := goodIn_r _ [20, 21, 22, 23, 24, 25, 26, 27, 28, 29, 30, 31, 32, 33, 34, 35, 36, 37, 19, 38, 39, 40, 41, 42, 43, 44, 45, 46, 47, 48, 49, 50, 51, 52, 53, 54, 55, 56, 57, 58, 59, 60, 61, 62, 63, 64, 65, 66, 67, 68, 69, 70, 71, 72, 73, 74, 75, 76, 77, 78, 79, 80, 81, 82, 83, 84, 85, 86, 87, 88, 89, 90, 91, 92, 93, 94, 95, 96, 97, 98, 99, 100, 101, 102, 103, 104, 105, 106, 107, 108, 109, 110, 111, 112, 113, 114, 115, 116, 117, 118, 119, 120, 121, 122, 123, 124, 125, 126, 127, 128, 129, 130, 131, 132, 133, 134, 135, 136, 137, 138, 139, 140, 141, 142, 143, 144, 145, 146, 147, 148, 149, 150, 151, 152, 153, 154, 155, 156, 157, 158, 159, 160, 161, 162, 163, 164, 165, 166, 167, 168, 169, 170, 171, 172, 173, 174, 175, 176, 177, 13, 178, 179, 180, 181, 182, 183, 184, 185, 186, 187, 188, 189, 190, 191, 192, 193, 194, 195, 196, 197, 198, 199, 200, 201, 202, 203, 204, 205, 206, 207, 208, 209, 210, 211, 212, 213, 214, 215, 216, 217, 247, 248, 249, 250, 251, 252, 253, 254, 255, 256, 257, 258, 259, 260, 261, 262, 263, 264, 265, 266, 267, 268, 269, 270, 278, 279, 280, 245, 246] (by decide +kernel) (by decide +kernel)
set_option maxRecDepth 20000 in
theorem gX11_lab_X7_reads : GoodIn wsX11_lab (wsV RX11 86 RX7 yX7_reads wsX7_reads) := goodIn_app (goodIn_of _ (by decide +kernel)) ggX11_lab_X7_reads
set_option maxRecDepth 20000 in
theorem ggX11_lab_X9_copy : GoodIn wsX11_lab wsX9_copy := goodIn_r _ [221, 222, 223, 224, 225, 173, 226, 175, 193, 13, 194, 227, 196, 197, 198, 176, 228, 171, 172, 174, 177, 178, 278, 279, 280] (by decide +kernel) (by decide +kernel)
set_option maxRecDepth 20000 in
theorem gX11_lab_X9_copy : GoodIn wsX11_lab (wsV RX11 105 RX9 yX9_copy wsX9_copy) := goodIn_app (goodIn_of _ (by decide +kernel)) ggX11_lab_X9_copy
set_option maxRecDepth 20000 in
theorem ggX11_lab_X11_granted : GoodIn wsX11_lab wsX11_granted := goodIn_r _ [232, 15, 233, 234, 235, 236, 237, 238, 239, 240, 241, 242, 243, 244] (by decide +kernel) (by decide +kernel)
set_option maxRecDepth 20000 in
theorem gX11_lab_X11_granted : GoodIn wsX11_lab (wsV RX11 114 RX11 yX11_granted wsX11_granted) := goodIn_app (goodIn_of _ (by decide +kernel)) ggX11_lab_X11_granted
theorem dX11_lab_0 : decode cX11_lab 0 = .ok (.iload_n 1, 1) := by decide +kernel
theorem dX11_lab_1 : decode cX11_lab 1 = .ok (.ifCond .lt 14, 3) := by decide +kernel
theorem dX11_lab_4 : decode cX11_lab 4 = .ok (.iload_n 1, 1) := by decide +kernel
theorem dX11_lab_5 : decode cX11_lab 5 = .ok (.aload_n 0, 1) := by decide +kernel
theorem dX11_lab_6 : decode cX11_lab 6 = .ok (.getfield 10, 3) := by decide +kernel
theorem dX11_lab_9 : decode cX11_lab 9 = .ok (.getfield 78, 3) := by decide +kernel
theorem dX11_lab_12 : decode cX11_lab 12 = .ok (.if_icmp .le 10, 3) := by decide +kernel
theorem dX11_lab_15 : decode cX11_lab 15 = .ok (.aload_n 0, 1) := by decide +kernel
theorem dX11_lab_16 : decode cX11_lab 16 = .ok (.iconst 2, 1) := by decide +kernel
theorem dX11_lab_17 : decode cX11_lab 17 = .ok (.iconst (-1), 1) := by decide +kernel
theorem dX11_lab_18 : decode cX11_lab 18 = .ok (.invokevirtual 82, 3) := by decide +kernel
theorem dX11_lab_21 : decode cX11_lab 21 = .ok (.ireturn, 1) := by decide +kernel
theorem dX11_lab_22 : decode cX11_lab 22 = .ok (.aload_n 0, 1) := by decide +kernel
theorem dX11_lab_23 : decode cX11_lab 23 = .ok (.getfield 21, 3) := by decide +kernel
theorem dX11_lab_26 : decode cX11_lab 26 = .ok (.aload_n 0, 1) := by decide +kernel
theorem dX11_lab_27 : decode cX11_lab 27 = .ok (.getfield 67, 3) := by decide +kernel
theorem dX11_lab_30 : decode cX11_lab 30 = .ok (.iload_n 1, 1) := by decide +kernel
theorem dX11_lab_31 : decode cX11_lab 31 = .ok (.invokevirtual 86, 3) := by decide +kernel
theorem dX11_lab_34 : decode cX11_lab 34 = .ok (.istore_n 2, 1) := by decide +kernel
theorem dX11_lab_35 : decode cX11_lab 35 = .ok (.aload_n 0, 1) := by decide +kernel
theorem dX11_lab_36 : decode cX11_lab 36 = .ok (.getfield 10, 3) := by decide +kernel
theorem dX11_lab_39 : decode cX11_lab 39 = .ok (.iconst 0, 1) := by decide +kernel
theorem dX11_lab_40 : decode cX11_lab 40 = .ok (.putfield 78, 3) := by decide +kernel
theorem dX11_lab_43 : decode cX11_lab 43 = .ok (.aload_n 0, 1) := by decide +kernel
theorem dX11_lab_44 : decode cX11_lab 44 = .ok (.aload_n 0, 1) := by decide +kernel
theorem dX11_lab_45 : decode cX11_lab 45 = .ok (.getfield 21, 3) := by decide +kernel
theorem dX11_lab_48 : decode cX11_lab 48 = .ok (.getfield 90, 3) := by decide +kernel
theorem dX11_lab_51 : decode cX11_lab 51 = .ok (.putfield 93, 3) := by decide +kernel
theorem dX11_lab_54 : decode cX11_lab 54 = .ok (.aload_n 0, 1) := by decide +kernel
theorem dX11_lab_55 : decode cX11_lab 55 = .ok (.aload_n 0, 1) := by decide +kernel
theorem dX11_lab_56 : decode cX11_lab 56 = .ok (.getfield 21, 3) := by decide +kernel
theorem dX11_lab_59 : decode cX11_lab 59 = .ok (.getfield 96, 3) := by decide +kernel
theorem dX11_lab_62 : decode cX11_lab 62 = .ok (.putfield 99, 3) := by decide +kernel
theorem dX11_lab_65 : decode cX11_lab 65 = .ok (.iload_n 2, 1) := by decide +kernel
theorem dX11_lab_66 : decode cX11_lab 66 = .ok (.ifCond .ne 10, 3) := by decide +kernel
theorem dX11_lab_69 : decode cX11_lab 69 = .ok (.aload_n 0, 1) := by decide +kernel
theorem dX11_lab_70 : decode cX11_lab 70 = .ok (.iconst 4, 1) := by decide +kernel
theorem dX11_lab_71 : decode cX11_lab 71 = .ok (.iconst (-1), 1) := by decide +kernel
theorem dX11_lab_72 : decode cX11_lab 72 = .ok (.invokevirtual 82, 3) := by decide +kernel
theorem dX11_lab_75 : decode cX11_lab 75 = .ok (.ireturn, 1) := by decide +kernel
theorem dX11_lab_76 : decode cX11_lab 76 = .ok (.aload_n 0, 1) := by decide +kernel
theorem dX11_lab_77 : decode cX11_lab 77 = .ok (.getfield 63, 3) := by decide +kernel
theorem dX11_lab_80 : decode cX11_lab 80 = .ok (.astore_n 3, 1) := by decide +kernel
theorem dX11_lab_81 : decode cX11_lab 81 = .ok (.aload_n 0, 1) := by decide +kernel
theorem dX11_lab_82 : decode cX11_lab 82 = .ok (.aload_n 0, 1) := by decide +kernel
theorem dX11_lab_83 : decode cX11_lab 83 = .ok (.getfield 67, 3) := by decide +kernel
theorem dX11_lab_86 : decode cX11_lab 86 = .ok (.putfield 63, 3) := by decide +kernel
theorem dX11_lab_89 : decode cX11_lab 89 = .ok (.aload_n 0, 1) := by decide +kernel
theorem dX11_lab_90 : decode cX11_lab 90 = .ok (.aload_n 3, 1) := by decide +kernel
theorem dX11_lab_91 : decode cX11_lab 91 = .ok (.putfield 67, 3) := by decide +kernel
theorem dX11_lab_94 : decode cX11_lab 94 = .ok (.aload_n 0, 1) := by decide +kernel
theorem dX11_lab_95 : decode cX11_lab 95 = .ok (.getfield 28, 3) := by decide +kernel
theorem dX11_lab_98 : decode cX11_lab 98 = .ok (.aload_n 0, 1) := by decide +kernel
theorem dX11_lab_99 : decode cX11_lab 99 = .ok (.getfield 63, 3) := by decide +kernel
theorem dX11_lab_102 : decode cX11_lab 102 = .ok (.getfield 102, 3) := by decide +kernel
theorem dX11_lab_105 : decode cX11_lab 105 = .ok (.invokevirtual 105, 3) := by decide +kernel
theorem dX11_lab_108 : decode cX11_lab 108 = .ok (.aload_n 0, 1) := by decide +kernel
theorem dX11_lab_109 : decode cX11_lab 109 = .ok (.getfield 35, 3) := by decide +kernel
theorem dX11_lab_112 : decode cX11_lab 112 = .ok (.iconst 0, 1) := by decide +kernel
theorem dX11_lab_113 : decode cX11_lab 113 = .ok (.putfield 109, 3) := by decide +kernel
theorem dX11_lab_116 : decode cX11_lab 116 = .ok (.aload_n 0, 1) := by decide +kernel
theorem dX11_lab_117 : decode cX11_lab 117 = .ok (.getfield 42, 3) := by decide +kernel
theorem dX11_lab_120 : decode cX11_lab 120 = .ok (.iconst 0, 1) := by decide +kernel
theorem dX11_lab_121 : decode cX11_lab 121 = .ok (.putfield 112, 3) := by decide +kernel
theorem dX11_lab_124 : decode cX11_lab 124 = .ok (.aload_n 0, 1) := by decide +kernel
theorem dX11_lab_125 : decode cX11_lab 125 = .ok (.aload_n 0, 1) := by decide +kernel
theorem dX11_lab_126 : decode cX11_lab 126 = .ok (.getfield 28, 3) := by decide +kernel
theorem dX11_lab_129 : decode cX11_lab 129 = .ok (.getfield 113, 3) := by decide +kernel
theorem dX11_lab_132 : decode cX11_lab 132 = .ok (.invokevirtual 114, 3) := by decide +kernel
theorem dX11_lab_135 : decode cX11_lab 135 = .ok (.ireturn, 1) := by decide +kernel
set_option maxRecDepth 20000 in
theorem ggX11_stack_X11_lacks : GoodIn wsX11_stack wsX11_lacks := goodIn_r _ [6, 1, 60, 61, 62, 63, 64, 65, 66, 67, 68, 69, 70, 71, 72, 73, 74] (by decide +kernel) (by decide +kernel)
set_option maxRecDepth 20000 in
theorem gX11_stack_X11_lacks : GoodIn wsX11_stack (wsV RX11 121 RX11 yX11_lacks wsX11_lacks) := goodIn_app (goodIn_of _ (by decide +kernel)) ggX11_stack_X11_lacks
set_option maxRecDepth 20000 in
theorem ggX11_stack_X11_refused : GoodIn wsX11_stack wsX11_refused := goodIn_r _ [10, 11, 60, 61, 62, 63, 64, 65, 66, 67, 68, 69, 70, 71] (by decide +kernel) (by decide +kernel)
set_option maxRecDepth 20000 in
theorem gX11_stack_X11_refused : GoodIn wsX11_stack (wsV RX11 82 RX11 yX11_refused wsX11_refused) := goodIn_app (goodIn_of _ (by decide +kernel)) ggX11_stack_X11_refused
set_option maxRecDepth 20000 in
theorem ggX11_stack_X9_row : GoodIn wsX11_stack wsX9_row := goodIn_r _ [16, 17, 18, 5, 19, 72, 73, 74] (by decide +kernel) (by decide +kernel)
set_option maxRecDepth 20000 in
theorem gX11_stack_X9_row : GoodIn wsX11_stack (wsV RX11 124 RX9 yX9_row wsX9_row) := goodIn_app (goodIn_of _ (by decide +kernel)) ggX11_stack_X9_row
set_option maxRecDepth 20000 in
theorem ggX11_stack_X9_steps : GoodIn wsX11_stack wsX9_steps := goodIn_r _ [23, 24, 18, 5, 19, 72, 73, 74] (by decide +kernel) (by decide +kernel)
set_option maxRecDepth 20000 in
theorem gX11_stack_X9_steps : GoodIn wsX11_stack (wsV RX11 127 RX9 yX9_steps wsX9_steps) := goodIn_app (goodIn_of _ (by decide +kernel)) ggX11_stack_X9_steps
set_option maxRecDepth 20000 in
theorem ggX11_stack_X11_granted : GoodIn wsX11_stack wsX11_granted := goodIn_r _ [28, 11, 60, 61, 62, 63, 64, 65, 66, 67, 68, 69, 70, 71] (by decide +kernel) (by decide +kernel)
set_option maxRecDepth 20000 in
theorem gX11_stack_X11_granted : GoodIn wsX11_stack (wsV RX11 114 RX11 yX11_granted wsX11_granted) := goodIn_app (goodIn_of _ (by decide +kernel)) ggX11_stack_X11_granted
set_option maxRecDepth 20000 in
theorem ggX11_stack_X8_repeatsAfter : GoodIn wsX11_stack wsX8_repeatsAfter := goodIn_r _ [32, 33, 34, 31, 35, 36, 37, 38, 39, 40, 41, 42] (by decide +kernel) (by decide +kernel)
set_option maxRecDepth 20000 in
theorem gX11_stack_X8_repeatsAfter : GoodIn wsX11_stack (va_wsS RX11 130 yX8_repeatsAfter wsX8_repeatsAfter) := goodIn_app (goodIn_of _ (by decide +kernel)) ggX11_stack_X8_repeatsAfter
set_option maxRecDepth 20000 in
theorem ggX11_stack_X8_period : GoodIn wsX11_stack wsX8_period := goodIn_r _ [45, 46, 47, 31, 48] (by decide +kernel) (by decide +kernel)
set_option maxRecDepth 20000 in
theorem gX11_stack_X8_period : GoodIn wsX11_stack (va_wsS RX11 135 yX8_period wsX8_period) := goodIn_app (goodIn_of _ (by decide +kernel)) ggX11_stack_X8_period
set_option maxRecDepth 20000 in
theorem ggX11_stack_X8_hexes : GoodIn wsX11_stack wsX8_hexes := goodIn_r _ [51, 46, 47, 31, 48, 36, 37, 38, 39, 40, 41, 42] (by decide +kernel) (by decide +kernel)
set_option maxRecDepth 20000 in
theorem gX11_stack_X8_hexes : GoodIn wsX11_stack (va_wsS RX11 138 yX8_hexes wsX8_hexes) := goodIn_app (goodIn_of _ (by decide +kernel)) ggX11_stack_X8_hexes
set_option maxRecDepth 20000 in
theorem ggX11_stack_X8_runs : GoodIn wsX11_stack wsX8_runs := goodIn_r _ [54, 55, 56, 57, 58, 59, 50, 31, 51, 46, 47, 48, 36, 37, 38, 39, 40, 41, 42] (by decide +kernel) (by decide +kernel)
set_option maxRecDepth 20000 in
theorem gX11_stack_X8_runs : GoodIn wsX11_stack (va_wsS RX11 141 yX8_runs wsX8_runs) := goodIn_app (goodIn_of _ (by decide +kernel)) ggX11_stack_X8_runs
theorem dX11_stack_0 : decode cX11_stack 0 = .ok (.aload_n 0, 1) := by decide +kernel
theorem dX11_stack_1 : decode cX11_stack 1 = .ok (.iload_n 1, 1) := by decide +kernel
theorem dX11_stack_2 : decode cX11_stack 2 = .ok (.invokevirtual 121, 3) := by decide +kernel
theorem dX11_stack_5 : decode cX11_stack 5 = .ok (.ifCond .ne 12, 3) := by decide +kernel
theorem dX11_stack_8 : decode cX11_stack 8 = .ok (.iload_n 2, 1) := by decide +kernel
