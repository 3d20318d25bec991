set_option maxRecDepth 20000 in
theorem ggX11_bestFault_X11_granted : GoodIn wsX11_bestFault wsX11_granted := goodIn_r _ [57, 12, 58, 59, 60, 61, 62, 63, 64, 65, 66, 67, 68, 69] (by decide +kernel) (by decide +kernel)
set_option maxRecDepth 20000 in
theorem gX11_bestFault_X11_granted : GoodIn wsX11_bestFault (wsV RX11 114 RX11 yX11_granted wsX11_granted) := goodIn_app (goodIn_of _ (by decide +kernel)) ggX11_bestFault_X11_granted
theorem dX11_bestFault_0 : decode cX11_bestFault 0 = .ok (.aload_n 0, 1) := by decide +kernel
theorem dX11_bestFault_1 : decode cX11_bestFault 1 = .ok (.iload_n 1, 1) := by decide +kernel
theorem dX11_bestFault_2 : decode cX11_bestFault 2 = .ok (.invokevirtual 121, 3) := by decide +kernel
theorem dX11_bestFault_5 : decode cX11_bestFault 5 = .ok (.ifCond .eq 10, 3) := by decide +kernel
theorem dX11_bestFault_8 : decode cX11_bestFault 8 = .ok (.aload_n 0, 1) := by decide +kernel
theorem dX11_bestFault_9 : decode cX11_bestFault 9 = .ok (.iconst 1, 1) := by decide +kernel
theorem dX11_bestFault_10 : decode cX11_bestFault 10 = .ok (.iconst (-1), 1) := by decide +kernel
theorem dX11_bestFault_11 : decode cX11_bestFault 11 = .ok (.invokevirtual 82, 3) := by decide +kernel
theorem dX11_bestFault_14 : decode cX11_bestFault 14 = .ok (.ireturn, 1) := by decide +kernel
theorem dX11_bestFault_15 : decode cX11_bestFault 15 = .ok (.aload_n 0, 1) := by decide +kernel
theorem dX11_bestFault_16 : decode cX11_bestFault 16 = .ok (.getfield 28, 3) := by decide +kernel
theorem dX11_bestFault_19 : decode cX11_bestFault 19 = .ok (.iload_n 1, 1) := by decide +kernel
theorem dX11_bestFault_20 : decode cX11_bestFault 20 = .ok (.invokevirtual 124, 3) := by decide +kernel
theorem dX11_bestFault_23 : decode cX11_bestFault 23 = .ok (.istore_n 2, 1) := by decide +kernel
theorem dX11_bestFault_24 : decode cX11_bestFault 24 = .ok (.aload_n 0, 1) := by decide +kernel
theorem dX11_bestFault_25 : decode cX11_bestFault 25 = .ok (.getfield 28, 3) := by decide +kernel
theorem dX11_bestFault_28 : decode cX11_bestFault 28 = .ok (.iload_n 1, 1) := by decide +kernel
theorem dX11_bestFault_29 : decode cX11_bestFault 29 = .ok (.invokevirtual 127, 3) := by decide +kernel
theorem dX11_bestFault_32 : decode cX11_bestFault 32 = .ok (.istore_n 3, 1) := by decide +kernel
theorem dX11_bestFault_33 : decode cX11_bestFault 33 = .ok (.iconst 1, 1) := by decide +kernel
theorem dX11_bestFault_34 : decode cX11_bestFault 34 = .ok (.istore 4, 2) := by decide +kernel
theorem dX11_bestFault_36 : decode cX11_bestFault 36 = .ok (.aload_n 0, 1) := by decide +kernel
theorem dX11_bestFault_37 : decode cX11_bestFault 37 = .ok (.getfield 63, 3) := by decide +kernel
theorem dX11_bestFault_40 : decode cX11_bestFault 40 = .ok (.iload_n 2, 1) := by decide +kernel
theorem dX11_bestFault_41 : decode cX11_bestFault 41 = .ok (.iload_n 3, 1) := by decide +kernel
theorem dX11_bestFault_42 : decode cX11_bestFault 42 = .ok (.iconst 1, 1) := by decide +kernel
theorem dX11_bestFault_43 : decode cX11_bestFault 43 = .ok (.invokestatic 244, 3) := by decide +kernel
theorem dX11_bestFault_46 : decode cX11_bestFault 46 = .ok (.iload_n 3, 1) := by decide +kernel
theorem dX11_bestFault_47 : decode cX11_bestFault 47 = .ok (.invokevirtual 169, 3) := by decide +kernel
theorem dX11_bestFault_50 : decode cX11_bestFault 50 = .ok (.istore 5, 2) := by decide +kernel
theorem dX11_bestFault_52 : decode cX11_bestFault 52 = .ok (.iconst 2, 1) := by decide +kernel
theorem dX11_bestFault_53 : decode cX11_bestFault 53 = .ok (.istore 6, 2) := by decide +kernel
theorem dX11_bestFault_55 : decode cX11_bestFault 55 = .ok (.iload 6, 2) := by decide +kernel
theorem dX11_bestFault_57 : decode cX11_bestFault 57 = .ok (.iload_n 3, 1) := by decide +kernel
theorem dX11_bestFault_58 : decode cX11_bestFault 58 = .ok (.if_icmp .ge 41, 3) := by decide +kernel
theorem dX11_bestFault_61 : decode cX11_bestFault 61 = .ok (.aload_n 0, 1) := by decide +kernel
theorem dX11_bestFault_62 : decode cX11_bestFault 62 = .ok (.getfield 63, 3) := by decide +kernel
theorem dX11_bestFault_65 : decode cX11_bestFault 65 = .ok (.iload_n 2, 1) := by decide +kernel
theorem dX11_bestFault_66 : decode cX11_bestFault 66 = .ok (.iload_n 3, 1) := by decide +kernel
theorem dX11_bestFault_67 : decode cX11_bestFault 67 = .ok (.iload 6, 2) := by decide +kernel
theorem dX11_bestFault_69 : decode cX11_bestFault 69 = .ok (.invokestatic 244, 3) := by decide +kernel
theorem dX11_bestFault_72 : decode cX11_bestFault 72 = .ok (.iload_n 3, 1) := by decide +kernel
theorem dX11_bestFault_73 : decode cX11_bestFault 73 = .ok (.invokevirtual 169, 3) := by decide +kernel
theorem dX11_bestFault_76 : decode cX11_bestFault 76 = .ok (.istore 7, 2) := by decide +kernel
theorem dX11_bestFault_78 : decode cX11_bestFault 78 = .ok (.iload 7, 2) := by decide +kernel
theorem dX11_bestFault_80 : decode cX11_bestFault 80 = .ok (.iload 5, 2) := by decide +kernel
theorem dX11_bestFault_82 : decode cX11_bestFault 82 = .ok (.if_icmp .ge 11, 3) := by decide +kernel
theorem dX11_bestFault_85 : decode cX11_bestFault 85 = .ok (.iload 6, 2) := by decide +kernel
theorem dX11_bestFault_87 : decode cX11_bestFault 87 = .ok (.istore 4, 2) := by decide +kernel
theorem dX11_bestFault_89 : decode cX11_bestFault 89 = .ok (.iload 7, 2) := by decide +kernel
theorem dX11_bestFault_91 : decode cX11_bestFault 91 = .ok (.istore 5, 2) := by decide +kernel
theorem dX11_bestFault_93 : decode cX11_bestFault 93 = .ok (.iinc 6 1, 3) := by decide +kernel
theorem dX11_bestFault_96 : decode cX11_bestFault 96 = .ok (.goto (-41), 3) := by decide +kernel
theorem dX11_bestFault_99 : decode cX11_bestFault 99 = .ok (.aload_n 0, 1) := by decide +kernel
theorem dX11_bestFault_100 : decode cX11_bestFault 100 = .ok (.iload 4, 2) := by decide +kernel
theorem dX11_bestFault_102 : decode cX11_bestFault 102 = .ok (.invokevirtual 114, 3) := by decide +kernel
theorem dX11_bestFault_105 : decode cX11_bestFault 105 = .ok (.ireturn, 1) := by decide +kernel
set_option maxRecDepth 20000 in
theorem ggX11_differs_X11_lacks : GoodIn wsX11_differs wsX11_lacks := goodIn_r _ [6, 1, 62, 63, 64, 65, 66, 67, 68, 69, 70, 71, 72, 73, 74, 75, 76] (by decide +kernel) (by decide +kernel)
set_option maxRecDepth 20000 in
theorem gX11_differs_X11_lacks : GoodIn wsX11_differs (wsV RX11 121 RX11 yX11_lacks wsX11_lacks) := goodIn_app (goodIn_of _ (by decide +kernel)) ggX11_differs_X11_lacks
set_option maxRecDepth 20000 in
theorem ggX11_differs_X11_refused : GoodIn wsX11_differs wsX11_refused := goodIn_r _ [10, 11, 62, 63, 64, 65, 66, 67, 68, 69, 70, 71, 72, 73] (by decide +kernel) (by decide +kernel)
set_option maxRecDepth 20000 in
theorem gX11_differs_X11_refused : GoodIn wsX11_differs (wsV RX11 82 RX11 yX11_refused wsX11_refused) := goodIn_app (goodIn_of _ (by decide +kernel)) ggX11_differs_X11_refused
set_option maxRecDepth 20000 in
theorem ggX11_differs_X9_row : GoodIn wsX11_differs wsX9_row := goodIn_r _ [16, 17, 18, 5, 19, 74, 75, 76] (by decide +kernel) (by decide +kernel)
set_option maxRecDepth 20000 in
theorem gX11_differs_X9_row : GoodIn wsX11_differs (wsV RX11 124 RX9 yX9_row wsX9_row) := goodIn_app (goodIn_of _ (by decide +kernel)) ggX11_differs_X9_row
set_option maxRecDepth 20000 in
theorem ggX11_differs_X9_steps : GoodIn wsX11_differs wsX9_steps := goodIn_r _ [23, 24, 18, 5, 19, 74, 75, 76] (by decide +kernel) (by decide +kernel)
set_option maxRecDepth 20000 in
theorem gX11_differs_X9_steps : GoodIn wsX11_differs (wsV RX11 127 RX9 yX9_steps wsX9_steps) := goodIn_app (goodIn_of _ (by decide +kernel)) ggX11_differs_X9_steps
set_option maxRecDepth 20000 in
theorem ggX11_differs_X8_repeatsAfter : GoodIn wsX11_differs wsX8_repeatsAfter := goodIn_r _ [28, 29, 30, 27, 31, 32, 33, 34, 35, 36, 37, 38] (by decide +kernel) (by decide +kernel)
set_option maxRecDepth 20000 in
theorem gX11_differs_X8_repeatsAfter : GoodIn wsX11_differs (va_wsS RX11 130 yX8_repeatsAfter wsX8_repeatsAfter) := goodIn_app (goodIn_of _ (by decide +kernel)) ggX11_differs_X8_repeatsAfter
set_option maxRecDepth 20000 in
theorem ggX11_differs_X8_layersAlike : GoodIn wsX11_differs wsX8_layersAlike := goodIn_r _ [41, 42, 43, 27, 44, 45, 46, 47, 48, 49, 50, 51, 52, 53, 54, 55, 56, 57, 26, 28, 29, 30, 31, 32, 33, 34, 35, 36, 37, 38] (by decide +kernel) (by decide +kernel)
set_option maxRecDepth 20000 in
theorem gX11_differs_X8_layersAlike : GoodIn wsX11_differs (va_wsS RX11 161 yX8_layersAlike wsX8_layersAlike) := goodIn_app (goodIn_of _ (by decide +kernel)) ggX11_differs_X8_layersAlike
set_option maxRecDepth 20000 in
theorem ggX11_differs_X11_granted : GoodIn wsX11_differs wsX11_granted := goodIn_r _ [61, 11, 62, 63, 64, 65, 66, 67, 68, 69, 70, 71, 72, 73] (by decide +kernel) (by decide +kernel)
set_option maxRecDepth 20000 in
theorem gX11_differs_X11_granted : GoodIn wsX11_differs (wsV RX11 114 RX11 yX11_granted wsX11_granted) := goodIn_app (goodIn_of _ (by decide +kernel)) ggX11_differs_X11_granted
theorem dX11_differs_0 : decode cX11_differs 0 = .ok (.aload_n 0, 1) := by decide +kernel
theorem dX11_differs_1 : decode cX11_differs 1 = .ok (.iload_n 1, 1) := by decide +kernel
theorem dX11_differs_2 : decode cX11_differs 2 = .ok (.invokevirtual 121, 3) := by decide +kernel
theorem dX11_differs_5 : decode cX11_differs 5 = .ok (.ifCond .ne 11, 3) := by decide +kernel
theorem dX11_differs_8 : decode cX11_differs 8 = .ok (.aload_n 0, 1) := by decide +kernel
theorem dX11_differs_9 : decode cX11_differs 9 = .ok (.iload_n 2, 1) := by decide +kernel
theorem dX11_differs_10 : decode cX11_differs 10 = .ok (.invokevirtual 121, 3) := by decide +kernel
theorem dX11_differs_13 : decode cX11_differs 13 = .ok (.ifCond .eq 10, 3) := by decide +kernel
theorem dX11_differs_16 : decode cX11_differs 16 = .ok (.aload_n 0, 1) := by decide +kernel
theorem dX11_differs_17 : decode cX11_differs 17 = .ok (.iconst 1, 1) := by decide +kernel
theorem dX11_differs_18 : decode cX11_differs 18 = .ok (.iconst (-1), 1) := by decide +kernel
theorem dX11_differs_19 : decode cX11_differs 19 = .ok (.invokevirtual 82, 3) := by decide +kernel
theorem dX11_differs_22 : decode cX11_differs 22 = .ok (.ireturn, 1) := by decide +kernel
theorem dX11_differs_23 : decode cX11_differs 23 = .ok (.aload_n 0, 1) := by decide +kernel
theorem dX11_differs_24 : decode cX11_differs 24 = .ok (.getfield 28, 3) := by decide +kernel
theorem dX11_differs_27 : decode cX11_differs 27 = .ok (.iload_n 1, 1) := by decide +kernel
theorem dX11_differs_28 : decode cX11_differs 28 = .ok (.invokevirtual 124, 3) := by decide +kernel
theorem dX11_differs_31 : decode cX11_differs 31 = .ok (.istore_n 3, 1) := by decide +kernel
theorem dX11_differs_32 : decode cX11_differs 32 = .ok (.aload_n 0, 1) := by decide +kernel
theorem dX11_differs_33 : decode cX11_differs 33 = .ok (.getfield 28, 3) := by decide +kernel
theorem dX11_differs_36 : decode cX11_differs 36 = .ok (.iload_n 2, 1) := by decide +kernel
theorem dX11_differs_37 : decode cX11_differs 37 = .ok (.invokevirtual 124, 3) := by decide +kernel
theorem dX11_differs_40 : decode cX11_differs 40 = .ok (.istore 4, 2) := by decide +kernel
theorem dX11_differs_42 : decode cX11_differs 42 = .ok (.iload_n 3, 1) := by decide +kernel
theorem dX11_differs_43 : decode cX11_differs 43 = .ok (.aload_n 0, 1) := by decide +kernel
theorem dX11_differs_44 : decode cX11_differs 44 = .ok (.getfield 28, 3) := by decide +kernel
theorem dX11_differs_47 : decode cX11_differs 47 = .ok (.iload_n 1, 1) := by decide +kernel
theorem dX11_differs_48 : decode cX11_differs 48 = .ok (.invokevirtual 127, 3) := by decide +kernel
theorem dX11_differs_51 : decode cX11_differs 51 = .ok (.invokestatic 130, 3) := by decide +kernel
theorem dX11_differs_54 : decode cX11_differs 54 = .ok (.istore 5, 2) := by decide +kernel
theorem dX11_differs_56 : decode cX11_differs 56 = .ok (.iload 4, 2) := by decide +kernel
theorem dX11_differs_58 : decode cX11_differs 58 = .ok (.aload_n 0, 1) := by decide +kernel
theorem dX11_differs_59 : decode cX11_differs 59 = .ok (.getfield 28, 3) := by decide +kernel
theorem dX11_differs_62 : decode cX11_differs 62 = .ok (.iload_n 2, 1) := by decide +kernel
theorem dX11_differs_63 : decode cX11_differs 63 = .ok (.invokevirtual 127, 3) := by decide +kernel
theorem dX11_differs_66 : decode cX11_differs 66 = .ok (.invokestatic 130, 3) := by decide +kernel
theorem dX11_differs_69 : decode cX11_differs 69 = .ok (.istore 6, 2) := by decide +kernel
theorem dX11_differs_71 : decode cX11_differs 71 = .ok (.iconst 1, 1) := by decide +kernel
theorem dX11_differs_72 : decode cX11_differs 72 = .ok (.istore 7, 2) := by decide +kernel
theorem dX11_differs_74 : decode cX11_differs 74 = .ok (.iload 7, 2) := by decide +kernel
theorem dX11_differs_76 : decode cX11_differs 76 = .ok (.bipush 36, 2) := by decide +kernel
theorem dX11_differs_78 : decode cX11_differs 78 = .ok (.if_icmp .gt 62, 3) := by decide +kernel
theorem dX11_differs_81 : decode cX11_differs 81 = .ok (.iload_n 3, 1) := by decide +kernel
theorem dX11_differs_82 : decode cX11_differs 82 = .ok (.aload_n 0, 1) := by decide +kernel
theorem dX11_differs_83 : decode cX11_differs 83 = .ok (.getfield 28, 3) := by decide +kernel
theorem dX11_differs_86 : decode cX11_differs 86 = .ok (.iload_n 1, 1) := by decide +kernel
theorem dX11_differs_87 : decode cX11_differs 87 = .ok (.invokevirtual 127, 3) := by decide +kernel
theorem dX11_differs_90 : decode cX11_differs 90 = .ok (.iload 7, 2) := by decide +kernel
theorem dX11_differs_92 : decode cX11_differs 92 = .ok (.invokestatic 161, 3) := by decide +kernel
theorem dX11_differs_95 : decode cX11_differs 95 = .ok (.istore 8, 2) := by decide +kernel
theorem dX11_differs_97 : decode cX11_differs 97 = .ok (.iload 4, 2) := by decide +kernel
theorem dX11_differs_99 : decode cX11_differs 99 = .ok (.aload_n 0, 1) := by decide +kernel
theorem dX11_differs_100 : decode cX11_differs 100 = .ok (.getfield 28, 3) := by decide +kernel
theorem dX11_differs_103 : decode cX11_differs 103 = .ok (.iload_n 2, 1) := by decide +kernel
theorem dX11_differs_104 : decode cX11_differs 104 = .ok (.invokevirtual 127, 3) := by decide +kernel
theorem dX11_differs_107 : decode cX11_differs 107 = .ok (.iload 7, 2) := by decide +kernel
theorem dX11_differs_109 : decode cX11_differs 109 = .ok (.invokestatic 161, 3) := by decide +kernel
theorem dX11_differs_112 : decode cX11_differs 112 = .ok (.istore 9, 2) := by decide +kernel
theorem dX11_differs_114 : decode cX11_differs 114 = .ok (.iload 8, 2) := by decide +kernel
theorem dX11_differs_116 : decode cX11_differs 116 = .ok (.iload 6, 2) := by decide +kernel
theorem dX11_differs_118 : decode cX11_differs 118 = .ok (.imul, 1) := by decide +kernel
theorem dX11_differs_119 : decode cX11_differs 119 = .ok (.iload 9, 2) := by decide +kernel
theorem dX11_differs_121 : decode cX11_differs 121 = .ok (.iload 5, 2) := by decide +kernel
theorem dX11_differs_123 : decode cX11_differs 123 = .ok (.imul, 1) := by decide +kernel
theorem dX11_differs_124 : decode cX11_differs 124 = .ok (.if_icmp .eq 10, 3) := by decide +kernel
theorem dX11_differs_127 : decode cX11_differs 127 = .ok (.aload_n 0, 1) := by decide +kernel
theorem dX11_differs_128 : decode cX11_differs 128 = .ok (.iload 7, 2) := by decide +kernel
theorem dX11_differs_130 : decode cX11_differs 130 = .ok (.invokevirtual 114, 3) := by decide +kernel
theorem dX11_differs_133 : decode cX11_differs 133 = .ok (.ireturn, 1) := by decide +kernel
theorem dX11_differs_134 : decode cX11_differs 134 = .ok (.iinc 7 1, 3) := by decide +kernel
theorem dX11_differs_137 : decode cX11_differs 137 = .ok (.goto (-63), 3) := by decide +kernel
theorem dX11_differs_140 : decode cX11_differs 140 = .ok (.aload_n 0, 1) := by decide +kernel
theorem dX11_differs_141 : decode cX11_differs 141 = .ok (.bipush (-2), 2) := by decide +kernel
theorem dX11_differs_143 : decode cX11_differs 143 = .ok (.invokevirtual 114, 3) := by decide +kernel
theorem dX11_differs_146 : decode cX11_differs 146 = .ok (.ireturn, 1) := by decide +kernel
set_option maxRecDepth 20000 in
theorem ggX11_fits_X11_refused : GoodIn wsX11_fits wsX11_refused := goodIn_r _ [6, 7, 77, 78, 79, 80, 81, 82, 83, 84, 85, 86, 87, 88] (by decide +kernel) (by decide +kernel)
set_option maxRecDepth 20000 in
theorem gX11_fits_X11_refused : GoodIn wsX11_fits (wsV RX11 82 RX11 yX11_refused wsX11_refused) := goodIn_app (goodIn_of _ (by decide +kernel)) ggX11_fits_X11_refused
set_option maxRecDepth 20000 in
theorem ggX11_fits_X1_of : GoodIn wsX11_fits wsX1_of := goodIn_r _ [11, 12, 13, 10, 14, 15, 16, 17, 18, 5, 19, 20, 21, 22, 23, 24, 25, 26, 27, 28, 29, 30, 31, 32, 33, 34, 35, 36, 37, 38, 39, 40, 41, 42, 43, 44, 45, 46, 47, 48, 49, 50, 51, 52, 53, 54, 55, 56, 57, 58, 59, 60, 61, 62, 63, 64, 65, 66, 67, 68, 69, 70, 71, 89, 90, 91, 92, 93, 94, 95, 96, 97, 98, 99, 100, 101, 102, 103, 104, 105] (by decide +kernel) (by decide +kernel)
set_option maxRecDepth 20000 in
theorem gX11_fits_X1_of : GoodIn wsX11_fits (va_wsS RX11 247 yX1_of wsX1_of) := goodIn_app (goodIn_of _ (by decide +kernel)) ggX11_fits_X1_of
set_option maxRecDepth 20000 in
theorem ggX11_fits_J6_bitCount_0f7a4 : GoodIn wsX11_fits wsJ6_bitCount_0f7a4 := goodIn_r _ [68, 69, 70, 71] (by decide +kernel) (by decide +kernel)
set_option maxRecDepth 20000 in
theorem gX11_fits_J6_bitCount_0f7a4 : GoodIn wsX11_fits (va_wsS RX11 253 yJ6_bitCount_0f7a4 wsJ6_bitCount_0f7a4) := goodIn_app (goodIn_of _ (by decide +kernel)) ggX11_fits_J6_bitCount_0f7a4
set_option maxRecDepth 20000 in
theorem ggX11_fits_X11_granted : GoodIn wsX11_fits wsX11_granted := goodIn_r _ [76, 7, 77, 78, 79, 80, 81, 82, 83, 84, 85, 86, 87, 88] (by decide +kernel) (by decide +kernel)
set_option maxRecDepth 20000 in
theorem gX11_fits_X11_granted : GoodIn wsX11_fits (wsV RX11 114 RX11 yX11_granted wsX11_granted) := goodIn_app (goodIn_of _ (by decide +kernel)) ggX11_fits_X11_granted
theorem dX11_fits_0 : decode cX11_fits 0 = .ok (.aload_n 0, 1) := by decide +kernel
theorem dX11_fits_1 : decode cX11_fits 1 = .ok (.getfield 63, 3) := by decide +kernel
theorem dX11_fits_4 : decode cX11_fits 4 = .ok (.getfield 172, 3) := by decide +kernel
theorem dX11_fits_7 : decode cX11_fits 7 = .ok (.ifCond .ne 10, 3) := by decide +kernel
theorem dX11_fits_10 : decode cX11_fits 10 = .ok (.aload_n 0, 1) := by decide +kernel
theorem dX11_fits_11 : decode cX11_fits 11 = .ok (.iconst 1, 1) := by decide +kernel
theorem dX11_fits_12 : decode cX11_fits 12 = .ok (.iconst (-1), 1) := by decide +kernel
theorem dX11_fits_13 : decode cX11_fits 13 = .ok (.invokevirtual 82, 3) := by decide +kernel
theorem dX11_fits_16 : decode cX11_fits 16 = .ok (.ireturn, 1) := by decide +kernel
theorem dX11_fits_17 : decode cX11_fits 17 = .ok (.aload_n 0, 1) := by decide +kernel
theorem dX11_fits_18 : decode cX11_fits 18 = .ok (.aload_n 0, 1) := by decide +kernel
theorem dX11_fits_19 : decode cX11_fits 19 = .ok (.getfield 63, 3) := by decide +kernel
theorem dX11_fits_22 : decode cX11_fits 22 = .ok (.invokestatic 247, 3) := by decide +kernel
theorem dX11_fits_25 : decode cX11_fits 25 = .ok (.invokestatic 253, 3) := by decide +kernel
theorem dX11_fits_28 : decode cX11_fits 28 = .ok (.invokevirtual 114, 3) := by decide +kernel
theorem dX11_fits_31 : decode cX11_fits 31 = .ok (.ireturn, 1) := by decide +kernel
set_option maxRecDepth 20000 in
theorem ggX11_fitAt_X11_refused : GoodIn wsX11_fitAt wsX11_refused := goodIn_r _ [6, 7, 79, 80, 81, 82, 83, 84, 85, 86, 87, 88, 89, 90] (by decide +kernel) (by decide +kernel)
set_option maxRecDepth 20000 in
theorem gX11_fitAt_X11_refused : GoodIn wsX11_fitAt (wsV RX11 82 RX11 yX11_refused wsX11_refused) := goodIn_app (goodIn_of _ (by decide +kernel)) ggX11_fitAt_X11_refused
set_option maxRecDepth 20000 in
theorem ggX11_fitAt_X1_of : GoodIn wsX11_fitAt wsX1_of := goodIn_r _ [11, 12, 13, 10, 14, 15, 16, 17, 18, 5, 19, 20, 21, 22, 23, 24, 25, 26, 27, 28, 29, 30, 31, 32, 33, 34, 35, 36, 37, 38, 39, 40, 41, 42, 43, 44, 45, 46, 47, 48, 49, 50, 51, 52, 53, 54, 55, 56, 57, 58, 59, 60, 61, 62, 63, 64, 65, 66, 67, 68, 69, 70, 71, 91, 92, 93, 94, 95, 96, 97, 98, 99, 100, 101, 102, 103, 104, 105, 106, 107] (by decide +kernel) (by decide +kernel)
set_option maxRecDepth 20000 in
theorem gX11_fitAt_X1_of : GoodIn wsX11_fitAt (va_wsS RX11 247 yX1_of wsX1_of) := goodIn_app (goodIn_of _ (by decide +kernel)) ggX11_fitAt_X1_of
set_option maxRecDepth 20000 in
theorem ggX11_fitAt_X1_setAt : GoodIn wsX11_fitAt wsX1_setAt := goodIn_r _ [74, 34, 35, 10, 36] (by decide +kernel) (by decide +kernel)
set_option maxRecDepth 20000 in
theorem gX11_fitAt_X1_setAt : GoodIn wsX11_fitAt (va_wsS RX11 258 yX1_setAt wsX1_setAt) := goodIn_app (goodIn_of _ (by decide +kernel)) ggX11_fitAt_X1_setAt
set_option maxRecDepth 20000 in
theorem ggX11_fitAt_X11_granted : GoodIn wsX11_fitAt wsX11_granted := goodIn_r _ [78, 7, 79, 80, 81, 82, 83, 84, 85, 86, 87, 88, 89, 90] (by decide +kernel) (by decide +kernel)
set_option maxRecDepth 20000 in
theorem gX11_fitAt_X11_granted : GoodIn wsX11_fitAt (wsV RX11 114 RX11 yX11_granted wsX11_granted) := goodIn_app (goodIn_of _ (by decide +kernel)) ggX11_fitAt_X11_granted
theorem dX11_fitAt_0 : decode cX11_fitAt 0 = .ok (.aload_n 0, 1) := by decide +kernel
theorem dX11_fitAt_1 : decode cX11_fitAt 1 = .ok (.getfield 63, 3) := by decide +kernel
theorem dX11_fitAt_4 : decode cX11_fitAt 4 = .ok (.getfield 172, 3) := by decide +kernel
theorem dX11_fitAt_7 : decode cX11_fitAt 7 = .ok (.ifCond .ne 10, 3) := by decide +kernel
theorem dX11_fitAt_10 : decode cX11_fitAt 10 = .ok (.aload_n 0, 1) := by decide +kernel
theorem dX11_fitAt_11 : decode cX11_fitAt 11 = .ok (.iconst 1, 1) := by decide +kernel
theorem dX11_fitAt_12 : decode cX11_fitAt 12 = .ok (.iconst (-1), 1) := by decide +kernel
theorem dX11_fitAt_13 : decode cX11_fitAt 13 = .ok (.invokevirtual 82, 3) := by decide +kernel
theorem dX11_fitAt_16 : decode cX11_fitAt 16 = .ok (.ireturn, 1) := by decide +kernel
theorem dX11_fitAt_17 : decode cX11_fitAt 17 = .ok (.aload_n 0, 1) := by decide +kernel
theorem dX11_fitAt_18 : decode cX11_fitAt 18 = .ok (.getfield 63, 3) := by decide +kernel
theorem dX11_fitAt_21 : decode cX11_fitAt 21 = .ok (.invokestatic 247, 3) := by decide +kernel
theorem dX11_fitAt_24 : decode cX11_fitAt 24 = .ok (.iload_n 1, 1) := by decide +kernel
theorem dX11_fitAt_25 : decode cX11_fitAt 25 = .ok (.invokestatic 258, 3) := by decide +kernel
theorem dX11_fitAt_28 : decode cX11_fitAt 28 = .ok (.istore_n 2, 1) := by decide +kernel
theorem dX11_fitAt_29 : decode cX11_fitAt 29 = .ok (.iload_n 2, 1) := by decide +kernel
theorem dX11_fitAt_30 : decode cX11_fitAt 30 = .ok (.iconst (-1), 1) := by decide +kernel
theorem dX11_fitAt_31 : decode cX11_fitAt 31 = .ok (.if_icmp .ne 12, 3) := by decide +kernel
theorem dX11_fitAt_34 : decode cX11_fitAt 34 = .ok (.aload_n 0, 1) := by decide +kernel
theorem dX11_fitAt_35 : decode cX11_fitAt 35 = .ok (.iconst 1, 1) := by decide +kernel
theorem dX11_fitAt_36 : decode cX11_fitAt 36 = .ok (.iconst (-1), 1) := by decide +kernel
theorem dX11_fitAt_37 : decode cX11_fitAt 37 = .ok (.invokevirtual 82, 3) := by decide +kernel
theorem dX11_fitAt_40 : decode cX11_fitAt 40 = .ok (.goto 8, 3) := by decide +kernel
theorem dX11_fitAt_43 : decode cX11_fitAt 43 = .ok (.aload_n 0, 1) := by decide +kernel
theorem dX11_fitAt_44 : decode cX11_fitAt 44 = .ok (.iload_n 2, 1) := by decide +kernel
theorem dX11_fitAt_45 : decode cX11_fitAt 45 = .ok (.invokevirtual 114, 3) := by decide +kernel
theorem dX11_fitAt_48 : decode cX11_fitAt 48 = .ok (.ireturn, 1) := by decide +kernel
set_option maxRecDepth 20000 in
theorem ggX11_could_X11_refused : GoodIn wsX11_could wsX11_refused := goodIn_r _ [6, 7, 79, 80, 81, 82, 83, 84, 85, 86, 87, 88, 89, 90] (by decide +kernel) (by decide +kernel)
set_option maxRecDepth 20000 in
theorem gX11_could_X11_refused : GoodIn wsX11_could (wsV RX11 82 RX11 yX11_refused wsX11_refused) := goodIn_app (goodIn_of _ (by decide +kernel)) ggX11_could_X11_refused
set_option maxRecDepth 20000 in
theorem ggX11_could_X1_of : GoodIn wsX11_could wsX1_of := goodIn_r _ [11, 12, 13, 10, 14, 15, 16, 17, 18, 5, 19, 20, 21, 22, 23, 24, 25, 26, 27, 28, 29, 30, 31, 32, 33, 34, 35, 36, 37, 38, 39, 40, 41, 42, 43, 44, 45, 46, 47, 48, 49, 50, 51, 52, 53, 54, 55, 56, 57, 58, 59, 60, 61, 62, 63, 64, 65, 66, 67, 68, 69, 70, 71, 91, 92, 93, 94, 95, 96, 97, 98, 99, 100, 101, 102, 103, 104, 105, 106, 107] (by decide +kernel) (by decide +kernel)
set_option maxRecDepth 20000 in
theorem gX11_could_X1_of : GoodIn wsX11_could (va_wsS RX11 247 yX1_of wsX1_of) := goodIn_app (goodIn_of _ (by decide +kernel)) ggX11_could_X1_of
set_option maxRecDepth 20000 in
theorem ggX11_could_X1_inSome : GoodIn wsX11_could wsX1_inSome := goodIn_r _ [74, 34, 35, 10, 36] (by decide +kernel) (by decide +kernel)
set_option maxRecDepth 20000 in
theorem gX11_could_X1_inSome : GoodIn wsX11_could (va_wsS RX11 261 yX1_inSome wsX1_inSome) := goodIn_app (goodIn_of _ (by decide +kernel)) ggX11_could_X1_inSome
set_option maxRecDepth 20000 in
theorem ggX11_could_X11_granted : GoodIn wsX11_could wsX11_granted := goodIn_r _ [78, 7, 79, 80, 81, 82, 83, 84, 85, 86, 87, 88, 89, 90] (by decide +kernel) (by decide +kernel)
set_option maxRecDepth 20000 in
theorem gX11_could_X11_granted : GoodIn wsX11_could (wsV RX11 114 RX11 yX11_granted wsX11_granted) := goodIn_app (goodIn_of _ (by decide +kernel)) ggX11_could_X11_granted
theorem dX11_could_0 : decode cX11_could 0 = .ok (.aload_n 0, 1) := by decide +kernel
theorem dX11_could_1 : decode cX11_could 1 = .ok (.getfield 63, 3) := by decide +kernel
theorem dX11_could_4 : decode cX11_could 4 = .ok (.getfield 172, 3) := by decide +kernel
theorem dX11_could_7 : decode cX11_could 7 = .ok (.ifCond .ne 10, 3) := by decide +kernel
theorem dX11_could_10 : decode cX11_could 10 = .ok (.aload_n 0, 1) := by decide +kernel
theorem dX11_could_11 : decode cX11_could 11 = .ok (.iconst 1, 1) := by decide +kernel
theorem dX11_could_12 : decode cX11_could 12 = .ok (.iconst (-1), 1) := by decide +kernel
theorem dX11_could_13 : decode cX11_could 13 = .ok (.invokevirtual 82, 3) := by decide +kernel
theorem dX11_could_16 : decode cX11_could 16 = .ok (.ireturn, 1) := by decide +kernel
theorem dX11_could_17 : decode cX11_could 17 = .ok (.aload_n 0, 1) := by decide +kernel
theorem dX11_could_18 : decode cX11_could 18 = .ok (.aload_n 0, 1) := by decide +kernel
theorem dX11_could_19 : decode cX11_could 19 = .ok (.getfield 63, 3) := by decide +kernel
theorem dX11_could_22 : decode cX11_could 22 = .ok (.invokestatic 247, 3) := by decide +kernel
theorem dX11_could_25 : decode cX11_could 25 = .ok (.invokestatic 261, 3) := by decide +kernel
theorem dX11_could_28 : decode cX11_could 28 = .ok (.invokevirtual 114, 3) := by decide +kernel
theorem dX11_could_31 : decode cX11_could 31 = .ok (.ireturn, 1) := by decide +kernel
set_option maxRecDepth 20000 in
theorem ggX11_surely_X11_refused : GoodIn wsX11_surely wsX11_refused := goodIn_r _ [6, 7, 79, 80, 81, 82, 83, 84, 85, 86, 87, 88, 89, 90] (by decide +kernel) (by decide +kernel)
set_option maxRecDepth 20000 in
theorem gX11_surely_X11_refused : GoodIn wsX11_surely (wsV RX11 82 RX11 yX11_refused wsX11_refused) := goodIn_app (goodIn_of _ (by decide +kernel)) ggX11_surely_X11_refused
set_option maxRecDepth 20000 in
theorem ggX11_surely_X1_of : GoodIn wsX11_surely wsX1_of := goodIn_r _ [11, 12, 13, 10, 14, 15, 16, 17, 18, 5, 19, 20, 21, 22, 23, 24, 25, 26, 27, 28, 29, 30, 31, 32, 33, 34, 35, 36, 37, 38, 39, 40, 41, 42, 43, 44, 45, 46, 47, 48, 49, 50, 51, 52, 53, 54, 55, 56, 57, 58, 59, 60, 61, 62, 63, 64, 65, 66, 67, 68, 69, 70, 71, 91, 92, 93, 94, 95, 96, 97, 98, 99, 100, 101, 102, 103, 104, 105, 106, 107] (by decide +kernel) (by decide +kernel)
set_option maxRecDepth 20000 in
theorem gX11_surely_X1_of : GoodIn wsX11_surely (va_wsS RX11 247 yX1_of wsX1_of) := goodIn_app (goodIn_of _ (by decide +kernel)) ggX11_surely_X1_of
set_option maxRecDepth 20000 in
theorem ggX11_surely_X1_inAll : GoodIn wsX11_surely wsX1_inAll := goodIn_r _ [74, 34, 35, 10, 36] (by decide +kernel) (by decide +kernel)
set_option maxRecDepth 20000 in
theorem gX11_surely_X1_inAll : GoodIn wsX11_surely (va_wsS RX11 264 yX1_inAll wsX1_inAll) := goodIn_app (goodIn_of _ (by decide +kernel)) ggX11_surely_X1_inAll
set_option maxRecDepth 20000 in
theorem ggX11_surely_X11_granted : GoodIn wsX11_surely wsX11_granted := goodIn_r _ [78, 7, 79, 80, 81, 82, 83, 84, 85, 86, 87, 88, 89, 90] (by decide +kernel) (by decide +kernel)
set_option maxRecDepth 20000 in
theorem gX11_surely_X11_granted : GoodIn wsX11_surely (wsV RX11 114 RX11 yX11_granted wsX11_granted) := goodIn_app (goodIn_of _ (by decide +kernel)) ggX11_surely_X11_granted
theorem dX11_surely_0 : decode cX11_surely 0 = .ok (.aload_n 0, 1) := by decide +kernel
theorem dX11_surely_1 : decode cX11_surely 1 = .ok (.getfield 63, 3) := by decide +kernel
theorem dX11_surely_4 : decode cX11_surely 4 = .ok (.getfield 172, 3) := by decide +kernel
theorem dX11_surely_7 : decode cX11_surely 7 = .ok (.ifCond .ne 10, 3) := by decide +kernel
theorem dX11_surely_10 : decode cX11_surely 10 = .ok (.aload_n 0, 1) := by decide +kernel
theorem dX11_surely_11 : decode cX11_surely 11 = .ok (.iconst 1, 1) := by decide +kernel
theorem dX11_surely_12 : decode cX11_surely 12 = .ok (.iconst (-1), 1) := by decide +kernel
theorem dX11_surely_13 : decode cX11_surely 13 = .ok (.invokevirtual 82, 3) := by decide +kernel
theorem dX11_surely_16 : decode cX11_surely 16 = .ok (.ireturn, 1) := by decide +kernel
theorem dX11_surely_17 : decode cX11_surely 17 = .ok (.aload_n 0, 1) := by decide +kernel
theorem dX11_surely_18 : decode cX11_surely 18 = .ok (.aload_n 0, 1) := by decide +kernel
theorem dX11_surely_19 : decode cX11_surely 19 = .ok (.getfield 63, 3) := by decide +kernel
theorem dX11_surely_22 : decode cX11_surely 22 = .ok (.invokestatic 247, 3) := by decide +kernel
theorem dX11_surely_25 : decode cX11_surely 25 = .ok (.invokestatic 264, 3) := by decide +kernel
theorem dX11_surely_28 : decode cX11_surely 28 = .ok (.invokevirtual 114, 3) := by decide +kernel
theorem dX11_surely_31 : decode cX11_surely 31 = .ok (.ireturn, 1) := by decide +kernel
set_option maxRecDepth 20000 in
theorem ggX11_ask_X11_refused : GoodIn wsX11_ask wsX11_refused := goodIn_r _ [6, 7, 87, 88, 89, 90, 91, 92, 93, 94, 95, 96, 97, 98] (by decide +kernel) (by decide +kernel)
set_option maxRecDepth 20000 in
theorem gX11_ask_X11_refused : GoodIn wsX11_ask (wsV RX11 82 RX11 yX11_refused wsX11_refused) := goodIn_app (goodIn_of _ (by decide +kernel)) ggX11_ask_X11_refused
set_option maxRecDepth 20000 in
theorem ggX11_ask_X1_of : GoodIn wsX11_ask wsX1_of := goodIn_r _ [11, 12, 13, 10, 14, 15, 16, 17, 18, 5, 19, 20, 21, 22, 23, 24, 25, 26, 27, 28, 29, 30, 31, 32, 33, 34, 35, 36, 37, 38, 39, 40, 41, 42, 43, 44, 45, 46, 47, 48, 49, 50, 51, 52, 53, 54, 55, 56, 57, 58, 59, 60, 61, 62, 63, 64, 65, 66, 67, 68, 69, 70, 71, 99, 100, 101, 102, 103, 104, 105, 106, 107, 108, 109, 110, 111, 112, 113, 114, 115] (by decide +kernel) (by decide +kernel)
set_option maxRecDepth 20000 in
theorem gX11_ask_X1_of : GoodIn wsX11_ask (va_wsS RX11 247 yX1_of wsX1_of) := goodIn_app (goodIn_of _ (by decide +kernel)) ggX11_ask_X1_of
set_option maxRecDepth 20000 in
theorem ggX11_ask_X1_bestQuestion : GoodIn wsX11_ask wsX1_bestQuestion := goodIn_r _ [74, 75, 76, 10, 77, 78, 79, 80, 81, 34, 35, 36, 82, 66, 67, 68, 69, 70, 71] (by decide +kernel) (by decide +kernel)
set_option maxRecDepth 20000 in
theorem gX11_ask_X1_bestQuestion : GoodIn wsX11_ask (va_wsS RX11 270 yX1_bestQuestion wsX1_bestQuestion) := goodIn_app (goodIn_of _ (by decide +kernel)) ggX11_ask_X1_bestQuestion
set_option maxRecDepth 20000 in
theorem ggX11_ask_X11_granted : GoodIn wsX11_ask wsX11_granted := goodIn_r _ [86, 7, 87, 88, 89, 90, 91, 92, 93, 94, 95, 96, 97, 98] (by decide +kernel) (by decide +kernel)
set_option maxRecDepth 20000 in
theorem gX11_ask_X11_granted : GoodIn wsX11_ask (wsV RX11 114 RX11 yX11_granted wsX11_granted) := goodIn_app (goodIn_of _ (by decide +kernel)) ggX11_ask_X11_granted
theorem dX11_ask_0 : decode cX11_ask 0 = .ok (.aload_n 0, 1) := by decide +kernel
theorem dX11_ask_1 : decode cX11_ask 1 = .ok (.getfield 63, 3) := by decide +kernel
theorem dX11_ask_4 : decode cX11_ask 4 = .ok (.getfield 172, 3) := by decide +kernel
theorem dX11_ask_7 : decode cX11_ask 7 = .ok (.ifCond .ne 10, 3) := by decide +kernel
theorem dX11_ask_10 : decode cX11_ask 10 = .ok (.aload_n 0, 1) := by decide +kernel
theorem dX11_ask_11 : decode cX11_ask 11 = .ok (.iconst 1, 1) := by decide +kernel
theorem dX11_ask_12 : decode cX11_ask 12 = .ok (.iconst (-1), 1) := by decide +kernel
theorem dX11_ask_13 : decode cX11_ask 13 = .ok (.invokevirtual 82, 3) := by decide +kernel
theorem dX11_ask_16 : decode cX11_ask 16 = .ok (.ireturn, 1) := by decide +kernel
theorem dX11_ask_17 : decode cX11_ask 17 = .ok (.aload_n 0, 1) := by decide +kernel
theorem dX11_ask_18 : decode cX11_ask 18 = .ok (.aload_n 0, 1) := by decide +kernel
theorem dX11_ask_19 : decode cX11_ask 19 = .ok (.getfield 63, 3) := by decide +kernel
theorem dX11_ask_22 : decode cX11_ask 22 = .ok (.invokestatic 247, 3) := by decide +kernel
theorem dX11_ask_25 : decode cX11_ask 25 = .ok (.aload_n 0, 1) := by decide +kernel
theorem dX11_ask_26 : decode cX11_ask 26 = .ok (.getfield 63, 3) := by decide +kernel
theorem dX11_ask_29 : decode cX11_ask 29 = .ok (.getfield 267, 3) := by decide +kernel
theorem dX11_ask_32 : decode cX11_ask 32 = .ok (.invokestatic 270, 3) := by decide +kernel
theorem dX11_ask_35 : decode cX11_ask 35 = .ok (.invokevirtual 114, 3) := by decide +kernel
theorem dX11_ask_38 : decode cX11_ask 38 = .ok (.ireturn, 1) := by decide +kernel
set_option maxRecDepth 20000 in
theorem ggX11_askLeaves_X11_refused : GoodIn wsX11_askLeaves wsX11_refused := goodIn_r _ [6, 7, 88, 89, 90, 91, 92, 93, 94, 95, 96, 97, 98, 99] (by decide +kernel) (by decide +kernel)
set_option maxRecDepth 20000 in
theorem gX11_askLeaves_X11_refused : GoodIn wsX11_askLeaves (wsV RX11 82 RX11 yX11_refused wsX11_refused) := goodIn_app (goodIn_of _ (by decide +kernel)) ggX11_askLeaves_X11_refused
set_option maxRecDepth 20000 in
theorem ggX11_askLeaves_X1_of : GoodIn wsX11_askLeaves wsX1_of := goodIn_r _ [11, 12, 13, 10, 14, 15, 16, 17, 18, 5, 19, 20, 21, 22, 23, 24, 25, 26, 27, 28, 29, 30, 31, 32, 33, 34, 35, 36, 37, 38, 39, 40, 41, 42, 43, 44, 45, 46, 47, 48, 49, 50, 51, 52, 53, 54, 55, 56, 57, 58, 59, 60, 61, 62, 63, 64, 65, 66, 67, 68, 69, 70, 71, 100, 101, 102, 103, 104, 105, 106, 107, 108, 109, 110, 111, 112, 113, 114, 115, 116] (by decide +kernel) (by decide +kernel)
set_option maxRecDepth 20000 in
theorem gX11_askLeaves_X1_of : GoodIn wsX11_askLeaves (va_wsS RX11 247 yX1_of wsX1_of) := goodIn_app (goodIn_of _ (by decide +kernel)) ggX11_askLeaves_X1_of
set_option maxRecDepth 20000 in
theorem ggX11_askLeaves_X1_bestQuestion : GoodIn wsX11_askLeaves wsX1_bestQuestion := goodIn_r _ [74, 75, 76, 10, 77, 78, 79, 80, 81, 34, 35, 36, 82, 66, 67, 68, 69, 70, 71] (by decide +kernel) (by decide +kernel)
set_option maxRecDepth 20000 in
theorem gX11_askLeaves_X1_bestQuestion : GoodIn wsX11_askLeaves (va_wsS RX11 270 yX1_bestQuestion wsX1_bestQuestion) := goodIn_app (goodIn_of _ (by decide +kernel)) ggX11_askLeaves_X1_bestQuestion
set_option maxRecDepth 20000 in
theorem ggX11_askLeaves_X1_mostLeft : GoodIn wsX11_askLeaves wsX1_mostLeft := goodIn_r _ [77, 78, 79, 80, 81, 34, 35, 10, 36, 82, 66, 67, 68, 69, 70, 71] (by decide +kernel) (by decide +kernel)
set_option maxRecDepth 20000 in
theorem gX11_askLeaves_X1_mostLeft : GoodIn wsX11_askLeaves (va_wsS RX11 273 yX1_mostLeft wsX1_mostLeft) := goodIn_app (goodIn_of _ (by decide +kernel)) ggX11_askLeaves_X1_mostLeft
set_option maxRecDepth 20000 in
theorem ggX11_askLeaves_X11_granted : GoodIn wsX11_askLeaves wsX11_granted := goodIn_r _ [87, 7, 88, 89, 90, 91, 92, 93, 94, 95, 96, 97, 98, 99] (by decide +kernel) (by decide +kernel)
set_option maxRecDepth 20000 in
theorem gX11_askLeaves_X11_granted : GoodIn wsX11_askLeaves (wsV RX11 114 RX11 yX11_granted wsX11_granted) := goodIn_app (goodIn_of _ (by decide +kernel)) ggX11_askLeaves_X11_granted
theorem dX11_askLeaves_0 : decode cX11_askLeaves 0 = .ok (.aload_n 0, 1) := by decide +kernel
theorem dX11_askLeaves_1 : decode cX11_askLeaves 1 = .ok (.getfield 63, 3) := by decide +kernel
theorem dX11_askLeaves_4 : decode cX11_askLeaves 4 = .ok (.getfield 172, 3) := by decide +kernel
theorem dX11_askLeaves_7 : decode cX11_askLeaves 7 = .ok (.ifCond .ne 10, 3) := by decide +kernel
theorem dX11_askLeaves_10 : decode cX11_askLeaves 10 = .ok (.aload_n 0, 1) := by decide +kernel
theorem dX11_askLeaves_11 : decode cX11_askLeaves 11 = .ok (.iconst 1, 1) := by decide +kernel
theorem dX11_askLeaves_12 : decode cX11_askLeaves 12 = .ok (.iconst (-1), 1) := by decide +kernel
theorem dX11_askLeaves_13 : decode cX11_askLeaves 13 = .ok (.invokevirtual 82, 3) := by decide +kernel
theorem dX11_askLeaves_16 : decode cX11_askLeaves 16 = .ok (.ireturn, 1) := by decide +kernel
theorem dX11_askLeaves_17 : decode cX11_askLeaves 17 = .ok (.aload_n 0, 1) := by decide +kernel
theorem dX11_askLeaves_18 : decode cX11_askLeaves 18 = .ok (.getfield 63, 3) := by decide +kernel
theorem dX11_askLeaves_21 : decode cX11_askLeaves 21 = .ok (.invokestatic 247, 3) := by decide +kernel
theorem dX11_askLeaves_24 : decode cX11_askLeaves 24 = .ok (.istore_n 1, 1) := by decide +kernel
theorem dX11_askLeaves_25 : decode cX11_askLeaves 25 = .ok (.iload_n 1, 1) := by decide +kernel
theorem dX11_askLeaves_26 : decode cX11_askLeaves 26 = .ok (.aload_n 0, 1) := by decide +kernel
theorem dX11_askLeaves_27 : decode cX11_askLeaves 27 = .ok (.getfield 63, 3) := by decide +kernel
theorem dX11_askLeaves_30 : decode cX11_askLeaves 30 = .ok (.getfield 267, 3) := by decide +kernel
theorem dX11_askLeaves_33 : decode cX11_askLeaves 33 = .ok (.invokestatic 270, 3) := by decide +kernel
theorem dX11_askLeaves_36 : decode cX11_askLeaves 36 = .ok (.istore_n 2, 1) := by decide +kernel
theorem dX11_askLeaves_37 : decode cX11_askLeaves 37 = .ok (.aload_n 0, 1) := by decide +kernel
theorem dX11_askLeaves_38 : decode cX11_askLeaves 38 = .ok (.iload_n 2, 1) := by decide +kernel
theorem dX11_askLeaves_39 : decode cX11_askLeaves 39 = .ok (.ifCond .ge 8, 3) := by decide +kernel
theorem dX11_askLeaves_42 : decode cX11_askLeaves 42 = .ok (.bipush (-2), 2) := by decide +kernel
theorem dX11_askLeaves_44 : decode cX11_askLeaves 44 = .ok (.goto 8, 3) := by decide +kernel
theorem dX11_askLeaves_47 : decode cX11_askLeaves 47 = .ok (.iload_n 1, 1) := by decide +kernel
theorem dX11_askLeaves_48 : decode cX11_askLeaves 48 = .ok (.iload_n 2, 1) := by decide +kernel
theorem dX11_askLeaves_49 : decode cX11_askLeaves 49 = .ok (.invokestatic 273, 3) := by decide +kernel
theorem dX11_askLeaves_52 : decode cX11_askLeaves 52 = .ok (.invokevirtual 114, 3) := by decide +kernel
theorem dX11_askLeaves_55 : decode cX11_askLeaves 55 = .ok (.ireturn, 1) := by decide +kernel
set_option maxRecDepth 20000 in
theorem ggX11_judge_X11_refused : GoodIn wsX11_judge wsX11_refused := goodIn_r _ [6, 7, 70, 71, 72, 73, 74, 75, 76, 77, 78, 79, 80, 81] (by decide +kernel) (by decide +kernel)
set_option maxRecDepth 20000 in
theorem gX11_judge_X11_refused : GoodIn wsX11_judge (wsV RX11 82 RX11 yX11_refused wsX11_refused) := goodIn_app (goodIn_of _ (by decide +kernel)) ggX11_judge_X11_refused
set_option maxRecDepth 20000 in
theorem ggX11_judge_X1_isSo : GoodIn wsX11_judge wsX1_isSo := goodIn_r _ [11, 12, 5, 13, 14, 15, 16, 17, 18, 19, 20, 21, 10, 22, 23, 24, 25, 26, 27, 28, 29, 30, 31, 32, 33, 34, 35, 36, 37, 38, 39, 40, 41, 42, 43, 44, 45, 46, 47, 48, 49, 50, 51, 52, 53, 54, 55, 56, 57, 58, 59, 60, 61, 62, 63, 64, 65, 82, 83, 84, 85, 86, 87, 88, 89, 90, 91, 92, 93, 94, 95, 96, 97, 98] (by decide +kernel) (by decide +kernel)
set_option maxRecDepth 20000 in
theorem gX11_judge_X1_isSo : GoodIn wsX11_judge (va_wsS RX11 279 yX1_isSo wsX1_isSo) := goodIn_app (goodIn_of _ (by decide +kernel)) ggX11_judge_X1_isSo
set_option maxRecDepth 20000 in
theorem ggX11_judge_X11_granted : GoodIn wsX11_judge wsX11_granted := goodIn_r _ [69, 7, 70, 71, 72, 73, 74, 75, 76, 77, 78, 79, 80, 81] (by decide +kernel) (by decide +kernel)
set_option maxRecDepth 20000 in
theorem gX11_judge_X11_granted : GoodIn wsX11_judge (wsV RX11 114 RX11 yX11_granted wsX11_granted) := goodIn_app (goodIn_of _ (by decide +kernel)) ggX11_judge_X11_granted
theorem dX11_judge_0 : decode cX11_judge 0 = .ok (.aload_n 0, 1) := by decide +kernel
theorem dX11_judge_1 : decode cX11_judge 1 = .ok (.getfield 63, 3) := by decide +kernel
theorem dX11_judge_4 : decode cX11_judge 4 = .ok (.getfield 172, 3) := by decide +kernel
theorem dX11_judge_7 : decode cX11_judge 7 = .ok (.ifCond .ne 10, 3) := by decide +kernel
theorem dX11_judge_10 : decode cX11_judge 10 = .ok (.aload_n 0, 1) := by decide +kernel
theorem dX11_judge_11 : decode cX11_judge 11 = .ok (.iconst 1, 1) := by decide +kernel
theorem dX11_judge_12 : decode cX11_judge 12 = .ok (.iconst (-1), 1) := by decide +kernel
theorem dX11_judge_13 : decode cX11_judge 13 = .ok (.invokevirtual 82, 3) := by decide +kernel
theorem dX11_judge_16 : decode cX11_judge 16 = .ok (.ireturn, 1) := by decide +kernel
theorem dX11_judge_17 : decode cX11_judge 17 = .ok (.iconst 0, 1) := by decide +kernel
theorem dX11_judge_18 : decode cX11_judge 18 = .ok (.istore_n 1, 1) := by decide +kernel
theorem dX11_judge_19 : decode cX11_judge 19 = .ok (.iload_n 1, 1) := by decide +kernel
theorem dX11_judge_20 : decode cX11_judge 20 = .ok (.aload_n 0, 1) := by decide +kernel
theorem dX11_judge_21 : decode cX11_judge 21 = .ok (.getfield 63, 3) := by decide +kernel
theorem dX11_judge_24 : decode cX11_judge 24 = .ok (.getfield 276, 3) := by decide +kernel
theorem dX11_judge_27 : decode cX11_judge 27 = .ok (.if_icmp .ge 27, 3) := by decide +kernel
theorem dX11_judge_30 : decode cX11_judge 30 = .ok (.aload_n 0, 1) := by decide +kernel
theorem dX11_judge_31 : decode cX11_judge 31 = .ok (.getfield 63, 3) := by decide +kernel
theorem dX11_judge_34 : decode cX11_judge 34 = .ok (.iload_n 1, 1) := by decide +kernel
theorem dX11_judge_35 : decode cX11_judge 35 = .ok (.iconst 0, 1) := by decide +kernel
theorem dX11_judge_36 : decode cX11_judge 36 = .ok (.invokestatic 279, 3) := by decide +kernel
theorem dX11_judge_39 : decode cX11_judge 39 = .ok (.ifCond .ne 9, 3) := by decide +kernel
theorem dX11_judge_42 : decode cX11_judge 42 = .ok (.aload_n 0, 1) := by decide +kernel
theorem dX11_judge_43 : decode cX11_judge 43 = .ok (.iload_n 1, 1) := by decide +kernel
theorem dX11_judge_44 : decode cX11_judge 44 = .ok (.invokevirtual 114, 3) := by decide +kernel
theorem dX11_judge_47 : decode cX11_judge 47 = .ok (.ireturn, 1) := by decide +kernel
theorem dX11_judge_48 : decode cX11_judge 48 = .ok (.iinc 1 1, 3) := by decide +kernel
theorem dX11_judge_51 : decode cX11_judge 51 = .ok (.goto (-32), 3) := by decide +kernel
theorem dX11_judge_54 : decode cX11_judge 54 = .ok (.aload_n 0, 1) := by decide +kernel
theorem dX11_judge_55 : decode cX11_judge 55 = .ok (.bipush (-2), 2) := by decide +kernel
theorem dX11_judge_57 : decode cX11_judge 57 = .ok (.invokevirtual 114, 3) := by decide +kernel
theorem dX11_judge_60 : decode cX11_judge 60 = .ok (.ireturn, 1) := by decide +kernel
set_option maxRecDepth 20000 in
theorem ggX11_odds_X11_refused : GoodIn wsX11_odds wsX11_refused := goodIn_r _ [7, 8, 31, 32, 33, 34, 35, 36, 37, 38, 39, 40, 41, 42] (by decide +kernel) (by decide +kernel)
set_option maxRecDepth 20000 in
theorem gX11_odds_X11_refused : GoodIn wsX11_odds (wsV RX11 82 RX11 yX11_refused wsX11_refused) := goodIn_app (goodIn_of _ (by decide +kernel)) ggX11_odds_X11_refused
set_option maxRecDepth 20000 in
theorem ggX11_odds_X2_upToChanges : GoodIn wsX11_odds wsX2_upToChanges := goodIn_r _ [12, 13, 14, 11, 15, 16, 17, 18] (by decide +kernel) (by decide +kernel)
set_option maxRecDepth 20000 in
theorem gX11_odds_X2_upToChanges : GoodIn wsX11_odds (va_wsS RX11 286 yX2_upToChanges wsX2_upToChanges) := goodIn_app (goodIn_of _ (by decide +kernel)) ggX11_odds_X2_upToChanges
set_option maxRecDepth 20000 in
theorem ggX11_odds_X2_power : GoodIn wsX11_odds wsX2_power := goodIn_r _ [18] (by decide +kernel) (by decide +kernel)
set_option maxRecDepth 20000 in
theorem gX11_odds_X2_power : GoodIn wsX11_odds (va_wsS RX11 294 yX2_power wsX2_power) := goodIn_app (goodIn_of _ (by decide +kernel)) ggX11_odds_X2_power
set_option maxRecDepth 20000 in
theorem ggX11_odds_X11_grantedPart : GoodIn wsX11_odds wsX11_grantedPart := goodIn_r _ [23, 8, 24, 25, 26, 27, 28, 29, 6, 30, 31, 32, 33, 34, 35, 36, 37, 38, 39, 40, 41, 42] (by decide +kernel) (by decide +kernel)
set_option maxRecDepth 20000 in
theorem gX11_odds_X11_grantedPart : GoodIn wsX11_odds (wsV RX11 164 RX11 yX11_grantedPart wsX11_grantedPart) := goodIn_app (goodIn_of _ (by decide +kernel)) ggX11_odds_X11_grantedPart
theorem dX11_odds_0 : decode cX11_odds 0 = .ok (.aload_n 0, 1) := by decide +kernel
theorem dX11_odds_1 : decode cX11_odds 1 = .ok (.getfield 63, 3) := by decide +kernel
theorem dX11_odds_4 : decode cX11_odds 4 = .ok (.getfield 172, 3) := by decide +kernel
theorem dX11_odds_7 : decode cX11_odds 7 = .ok (.ifCond .ne 11, 3) := by decide +kernel
theorem dX11_odds_10 : decode cX11_odds 10 = .ok (.aload_n 0, 1) := by decide +kernel
theorem dX11_odds_11 : decode cX11_odds 11 = .ok (.iconst 1, 1) := by decide +kernel
theorem dX11_odds_12 : decode cX11_odds 12 = .ok (.iconst (-1), 1) := by decide +kernel
theorem dX11_odds_13 : decode cX11_odds 13 = .ok (.invokevirtual 82, 3) := by decide +kernel
theorem dX11_odds_16 : decode cX11_odds 16 = .ok (.i2l, 1) := by decide +kernel
theorem dX11_odds_17 : decode cX11_odds 17 = .ok (.lreturn, 1) := by decide +kernel
theorem dX11_odds_18 : decode cX11_odds 18 = .ok (.iload_n 1, 1) := by decide +kernel
theorem dX11_odds_19 : decode cX11_odds 19 = .ok (.iconst 1, 1) := by decide +kernel
theorem dX11_odds_20 : decode cX11_odds 20 = .ok (.if_icmp .lt 19, 3) := by decide +kernel
theorem dX11_odds_23 : decode cX11_odds 23 = .ok (.iload_n 1, 1) := by decide +kernel
theorem dX11_odds_24 : decode cX11_odds 24 = .ok (.bipush 8, 2) := by decide +kernel
theorem dX11_odds_26 : decode cX11_odds 26 = .ok (.if_icmp .gt 13, 3) := by decide +kernel
theorem dX11_odds_29 : decode cX11_odds 29 = .ok (.iload_n 2, 1) := by decide +kernel
theorem dX11_odds_30 : decode cX11_odds 30 = .ok (.ifCond .lt 9, 3) := by decide +kernel
theorem dX11_odds_33 : decode cX11_odds 33 = .ok (.iload_n 2, 1) := by decide +kernel
theorem dX11_odds_34 : decode cX11_odds 34 = .ok (.bipush 8, 2) := by decide +kernel
theorem dX11_odds_36 : decode cX11_odds 36 = .ok (.if_icmp .lt 11, 3) := by decide +kernel
theorem dX11_odds_39 : decode cX11_odds 39 = .ok (.aload_n 0, 1) := by decide +kernel
theorem dX11_odds_40 : decode cX11_odds 40 = .ok (.iconst 2, 1) := by decide +kernel
theorem dX11_odds_41 : decode cX11_odds 41 = .ok (.iconst (-1), 1) := by decide +kernel
theorem dX11_odds_42 : decode cX11_odds 42 = .ok (.invokevirtual 82, 3) := by decide +kernel
theorem dX11_odds_45 : decode cX11_odds 45 = .ok (.i2l, 1) := by decide +kernel
theorem dX11_odds_46 : decode cX11_odds 46 = .ok (.lreturn, 1) := by decide +kernel
theorem dX11_odds_47 : decode cX11_odds 47 = .ok (.aload_n 0, 1) := by decide +kernel
theorem dX11_odds_48 : decode cX11_odds 48 = .ok (.getfield 63, 3) := by decide +kernel
theorem dX11_odds_51 : decode cX11_odds 51 = .ok (.getfield 283, 3) := by decide +kernel
theorem dX11_odds_54 : decode cX11_odds 54 = .ok (.iload_n 1, 1) := by decide +kernel
theorem dX11_odds_55 : decode cX11_odds 55 = .ok (.iload_n 2, 1) := by decide +kernel
theorem dX11_odds_56 : decode cX11_odds 56 = .ok (.invokestatic 286, 3) := by decide +kernel
theorem dX11_odds_59 : decode cX11_odds 59 = .ok (.lstore 4, 2) := by decide +kernel
theorem dX11_odds_61 : decode cX11_odds 61 = .ok (.aload_n 0, 1) := by decide +kernel
theorem dX11_odds_62 : decode cX11_odds 62 = .ok (.lload 4, 2) := by decide +kernel
theorem dX11_odds_64 : decode cX11_odds 64 = .ok (.ldc2_w 292, 3) := by decide +kernel
theorem dX11_odds_67 : decode cX11_odds 67 = .ok (.iload_n 1, 1) := by decide +kernel
theorem dX11_odds_68 : decode cX11_odds 68 = .ok (.iconst 1, 1) := by decide +kernel
theorem dX11_odds_69 : decode cX11_odds 69 = .ok (.isub, 1) := by decide +kernel
theorem dX11_odds_70 : decode cX11_odds 70 = .ok (.invokestatic 294, 3) := by decide +kernel
theorem dX11_odds_73 : decode cX11_odds 73 = .ok (.iload_n 3, 1) := by decide +kernel
theorem dX11_odds_74 : decode cX11_odds 74 = .ok (.invokevirtual 164, 3) := by decide +kernel
theorem dX11_odds_77 : decode cX11_odds 77 = .ok (.lreturn, 1) := by decide +kernel
set_option maxRecDepth 20000 in
theorem ggX11_meanSum_X11_refused : GoodIn wsX11_meanSum wsX11_refused := goodIn_r _ [8, 9, 30, 31, 32, 33, 34, 35, 36, 37, 38, 39, 40, 41] (by decide +kernel) (by decide +kernel)
set_option maxRecDepth 20000 in
theorem gX11_meanSum_X11_refused : GoodIn wsX11_meanSum (wsV RX11 82 RX11 yX11_refused wsX11_refused) := goodIn_app (goodIn_of _ (by decide +kernel)) ggX11_meanSum_X11_refused
set_option maxRecDepth 20000 in
theorem ggX11_meanSum_X2_meanTotal : GoodIn wsX11_meanSum wsX2_meanTotal := goodIn_r _ [13, 14, 15, 16, 12, 17] (by decide +kernel) (by decide +kernel)
set_option maxRecDepth 20000 in
theorem gX11_meanSum_X2_meanTotal : GoodIn wsX11_meanSum (va_wsS RX11 304 yX2_meanTotal wsX2_meanTotal) := goodIn_app (goodIn_of _ (by decide +kernel)) ggX11_meanSum_X2_meanTotal
set_option maxRecDepth 20000 in
theorem ggX11_meanSum_X2_power : GoodIn wsX11_meanSum wsX2_power := goodIn_r _ [17] (by decide +kernel) (by decide +kernel)
set_option maxRecDepth 20000 in
theorem gX11_meanSum_X2_power : GoodIn wsX11_meanSum (va_wsS RX11 294 yX2_power wsX2_power) := goodIn_app (goodIn_of _ (by decide +kernel)) ggX11_meanSum_X2_power
set_option maxRecDepth 20000 in
theorem ggX11_meanSum_X11_grantedPart : GoodIn wsX11_meanSum wsX11_grantedPart := goodIn_r _ [22, 9, 23, 24, 25, 26, 27, 28, 7, 29, 30, 31, 32, 33, 34, 35, 36, 37, 38, 39, 40, 41] (by decide +kernel) (by decide +kernel)
set_option maxRecDepth 20000 in
theorem gX11_meanSum_X11_grantedPart : GoodIn wsX11_meanSum (wsV RX11 164 RX11 yX11_grantedPart wsX11_grantedPart) := goodIn_app (goodIn_of _ (by decide +kernel)) ggX11_meanSum_X11_grantedPart
theorem dX11_meanSum_0 : decode cX11_meanSum 0 = .ok (.aload_n 0, 1) := by decide +kernel
theorem dX11_meanSum_1 : decode cX11_meanSum 1 = .ok (.getfield 63, 3) := by decide +kernel
theorem dX11_meanSum_4 : decode cX11_meanSum 4 = .ok (.getfield 172, 3) := by decide +kernel
theorem dX11_meanSum_7 : decode cX11_meanSum 7 = .ok (.ifCond .ne 12, 3) := by decide +kernel
theorem dX11_meanSum_10 : decode cX11_meanSum 10 = .ok (.aload_n 0, 1) := by decide +kernel
theorem dX11_meanSum_11 : decode cX11_meanSum 11 = .ok (.iconst 1, 1) := by decide +kernel
theorem dX11_meanSum_12 : decode cX11_meanSum 12 = .ok (.ldc 168, 2) := by decide +kernel
theorem dX11_meanSum_14 : decode cX11_meanSum 14 = .ok (.invokevirtual 82, 3) := by decide +kernel
theorem dX11_meanSum_17 : decode cX11_meanSum 17 = .ok (.i2l, 1) := by decide +kernel
theorem dX11_meanSum_18 : decode cX11_meanSum 18 = .ok (.lreturn, 1) := by decide +kernel
theorem dX11_meanSum_19 : decode cX11_meanSum 19 = .ok (.iload_n 1, 1) := by decide +kernel
theorem dX11_meanSum_20 : decode cX11_meanSum 20 = .ok (.iconst 1, 1) := by decide +kernel
theorem dX11_meanSum_21 : decode cX11_meanSum 21 = .ok (.if_icmp .lt 9, 3) := by decide +kernel
theorem dX11_meanSum_24 : decode cX11_meanSum 24 = .ok (.iload_n 1, 1) := by decide +kernel
theorem dX11_meanSum_25 : decode cX11_meanSum 25 = .ok (.bipush 8, 2) := by decide +kernel
theorem dX11_meanSum_27 : decode cX11_meanSum 27 = .ok (.if_icmp .le 12, 3) := by decide +kernel
theorem dX11_meanSum_30 : decode cX11_meanSum 30 = .ok (.aload_n 0, 1) := by decide +kernel
theorem dX11_meanSum_31 : decode cX11_meanSum 31 = .ok (.iconst 2, 1) := by decide +kernel
theorem dX11_meanSum_32 : decode cX11_meanSum 32 = .ok (.ldc 168, 2) := by decide +kernel
theorem dX11_meanSum_34 : decode cX11_meanSum 34 = .ok (.invokevirtual 82, 3) := by decide +kernel
theorem dX11_meanSum_37 : decode cX11_meanSum 37 = .ok (.i2l, 1) := by decide +kernel
theorem dX11_meanSum_38 : decode cX11_meanSum 38 = .ok (.lreturn, 1) := by decide +kernel
theorem dX11_meanSum_39 : decode cX11_meanSum 39 = .ok (.aload_n 0, 1) := by decide +kernel
theorem dX11_meanSum_40 : decode cX11_meanSum 40 = .ok (.getfield 63, 3) := by decide +kernel
theorem dX11_meanSum_43 : decode cX11_meanSum 43 = .ok (.getfield 283, 3) := by decide +kernel
theorem dX11_meanSum_46 : decode cX11_meanSum 46 = .ok (.iload_n 1, 1) := by decide +kernel
theorem dX11_meanSum_47 : decode cX11_meanSum 47 = .ok (.invokestatic 304, 3) := by decide +kernel
theorem dX11_meanSum_50 : decode cX11_meanSum 50 = .ok (.lstore_n 3, 1) := by decide +kernel
theorem dX11_meanSum_51 : decode cX11_meanSum 51 = .ok (.aload_n 0, 1) := by decide +kernel
theorem dX11_meanSum_52 : decode cX11_meanSum 52 = .ok (.lload_n 3, 1) := by decide +kernel
theorem dX11_meanSum_53 : decode cX11_meanSum 53 = .ok (.ldc2_w 292, 3) := by decide +kernel
theorem dX11_meanSum_56 : decode cX11_meanSum 56 = .ok (.iload_n 1, 1) := by decide +kernel
theorem dX11_meanSum_57 : decode cX11_meanSum 57 = .ok (.iconst 1, 1) := by decide +kernel
theorem dX11_meanSum_58 : decode cX11_meanSum 58 = .ok (.isub, 1) := by decide +kernel
theorem dX11_meanSum_59 : decode cX11_meanSum 59 = .ok (.invokestatic 294, 3) := by decide +kernel
theorem dX11_meanSum_62 : decode cX11_meanSum 62 = .ok (.iload_n 2, 1) := by decide +kernel
theorem dX11_meanSum_63 : decode cX11_meanSum 63 = .ok (.invokevirtual 164, 3) := by decide +kernel
theorem dX11_meanSum_66 : decode cX11_meanSum 66 = .ok (.lreturn, 1) := by decide +kernel
set_option maxRecDepth 20000 in
theorem ggX11_grown_X11_refused : GoodIn wsX11_grown wsX11_refused := goodIn_r _ [6, 7, 24, 25, 26, 27, 28, 29, 30, 31, 32, 33, 34, 35] (by decide +kernel) (by decide +kernel)
set_option maxRecDepth 20000 in
theorem gX11_grown_X11_refused : GoodIn wsX11_grown (wsV RX11 82 RX11 yX11_refused wsX11_refused) := goodIn_app (goodIn_of _ (by decide +kernel)) ggX11_grown_X11_refused
set_option maxRecDepth 20000 in
theorem ggX11_grown_X11_isNoSeed : GoodIn wsX11_grown wsX11_isNoSeed := goodIn_r _ [10, 11] (by decide +kernel) (by decide +kernel)
set_option maxRecDepth 20000 in
theorem gX11_grown_X11_isNoSeed : GoodIn wsX11_grown (va_wsS RX11 308 yX11_isNoSeed wsX11_isNoSeed) := goodIn_app (goodIn_of _ (by decide +kernel)) ggX11_grown_X11_isNoSeed
set_option maxRecDepth 20000 in
theorem ggX11_grown_X2_rowBy : GoodIn wsX11_grown wsX2_rowBy := goodIn_r _ [15, 16, 17, 14, 18, 19] (by decide +kernel) (by decide +kernel)
set_option maxRecDepth 20000 in
theorem gX11_grown_X2_rowBy : GoodIn wsX11_grown (va_wsS RX11 311 yX2_rowBy wsX2_rowBy) := goodIn_app (goodIn_of _ (by decide +kernel)) ggX11_grown_X2_rowBy
set_option maxRecDepth 20000 in
theorem ggX11_grown_X11_granted : GoodIn wsX11_grown wsX11_granted := goodIn_r _ [23, 7, 24, 25, 26, 27, 28, 29, 30, 31, 32, 33, 34, 35] (by decide +kernel) (by decide +kernel)
set_option maxRecDepth 20000 in
theorem gX11_grown_X11_granted : GoodIn wsX11_grown (wsV RX11 114 RX11 yX11_granted wsX11_granted) := goodIn_app (goodIn_of _ (by decide +kernel)) ggX11_grown_X11_granted
theorem dX11_grown_0 : decode cX11_grown 0 = .ok (.aload_n 0, 1) := by decide +kernel
theorem dX11_grown_1 : decode cX11_grown 1 = .ok (.getfield 63, 3) := by decide +kernel
theorem dX11_grown_4 : decode cX11_grown 4 = .ok (.getfield 172, 3) := by decide +kernel
theorem dX11_grown_7 : decode cX11_grown 7 = .ok (.ifCond .ne 10, 3) := by decide +kernel
theorem dX11_grown_10 : decode cX11_grown 10 = .ok (.aload_n 0, 1) := by decide +kernel
theorem dX11_grown_11 : decode cX11_grown 11 = .ok (.iconst 1, 1) := by decide +kernel
theorem dX11_grown_12 : decode cX11_grown 12 = .ok (.iconst (-1), 1) := by decide +kernel
theorem dX11_grown_13 : decode cX11_grown 13 = .ok (.invokevirtual 82, 3) := by decide +kernel
theorem dX11_grown_16 : decode cX11_grown 16 = .ok (.ireturn, 1) := by decide +kernel
theorem dX11_grown_17 : decode cX11_grown 17 = .ok (.iload_n 1, 1) := by decide +kernel
theorem dX11_grown_18 : decode cX11_grown 18 = .ok (.invokestatic 308, 3) := by decide +kernel
theorem dX11_grown_21 : decode cX11_grown 21 = .ok (.ifCond .ne 14, 3) := by decide +kernel
theorem dX11_grown_24 : decode cX11_grown 24 = .ok (.iload_n 2, 1) := by decide +kernel
theorem dX11_grown_25 : decode cX11_grown 25 = .ok (.iconst 1, 1) := by decide +kernel
theorem dX11_grown_26 : decode cX11_grown 26 = .ok (.if_icmp .lt 9, 3) := by decide +kernel
theorem dX11_grown_29 : decode cX11_grown 29 = .ok (.iload_n 2, 1) := by decide +kernel
theorem dX11_grown_30 : decode cX11_grown 30 = .ok (.bipush 12, 2) := by decide +kernel
theorem dX11_grown_32 : decode cX11_grown 32 = .ok (.if_icmp .le 10, 3) := by decide +kernel
theorem dX11_grown_35 : decode cX11_grown 35 = .ok (.aload_n 0, 1) := by decide +kernel
theorem dX11_grown_36 : decode cX11_grown 36 = .ok (.iconst 2, 1) := by decide +kernel
theorem dX11_grown_37 : decode cX11_grown 37 = .ok (.iconst (-1), 1) := by decide +kernel
theorem dX11_grown_38 : decode cX11_grown 38 = .ok (.invokevirtual 82, 3) := by decide +kernel
theorem dX11_grown_41 : decode cX11_grown 41 = .ok (.ireturn, 1) := by decide +kernel
theorem dX11_grown_42 : decode cX11_grown 42 = .ok (.aload_n 0, 1) := by decide +kernel
theorem dX11_grown_43 : decode cX11_grown 43 = .ok (.aload_n 0, 1) := by decide +kernel
theorem dX11_grown_44 : decode cX11_grown 44 = .ok (.getfield 63, 3) := by decide +kernel
theorem dX11_grown_47 : decode cX11_grown 47 = .ok (.getfield 283, 3) := by decide +kernel
theorem dX11_grown_50 : decode cX11_grown 50 = .ok (.iload_n 1, 1) := by decide +kernel
theorem dX11_grown_51 : decode cX11_grown 51 = .ok (.iload_n 2, 1) := by decide +kernel
theorem dX11_grown_52 : decode cX11_grown 52 = .ok (.invokestatic 311, 3) := by decide +kernel
theorem dX11_grown_55 : decode cX11_grown 55 = .ok (.invokevirtual 114, 3) := by decide +kernel
theorem dX11_grown_58 : decode cX11_grown 58 = .ok (.ireturn, 1) := by decide +kernel
set_option maxRecDepth 20000 in
theorem ggX11_longestRun_X11_refused : GoodIn wsX11_longestRun wsX11_refused := goodIn_r _ [6, 7, 28, 29, 30, 31, 32, 33, 34, 35, 36, 37, 38, 39] (by decide +kernel) (by decide +kernel)
set_option maxRecDepth 20000 in
theorem gX11_longestRun_X11_refused : GoodIn wsX11_longestRun (wsV RX11 82 RX11 yX11_refused wsX11_refused) := goodIn_app (goodIn_of _ (by decide +kernel)) ggX11_longestRun_X11_refused
set_option maxRecDepth 20000 in
theorem ggX11_longestRun_X11_isNoSeed : GoodIn wsX11_longestRun wsX11_isNoSeed := goodIn_r _ [10, 11] (by decide +kernel) (by decide +kernel)
set_option maxRecDepth 20000 in
theorem gX11_longestRun_X11_isNoSeed : GoodIn wsX11_longestRun (va_wsS RX11 308 yX11_isNoSeed wsX11_isNoSeed) := goodIn_app (goodIn_of _ (by decide +kernel)) ggX11_longestRun_X11_isNoSeed
set_option maxRecDepth 20000 in
theorem ggX11_longestRun_X2_longestBy : GoodIn wsX11_longestRun wsX2_longestBy := goodIn_r _ [15, 16, 17, 18, 19, 20, 21, 14, 22, 23] (by decide +kernel) (by decide +kernel)
set_option maxRecDepth 20000 in
theorem gX11_longestRun_X2_longestBy : GoodIn wsX11_longestRun (va_wsS RX11 314 yX2_longestBy wsX2_longestBy) := goodIn_app (goodIn_of _ (by decide +kernel)) ggX11_longestRun_X2_longestBy
set_option maxRecDepth 20000 in
theorem ggX11_longestRun_X11_granted : GoodIn wsX11_longestRun wsX11_granted := goodIn_r _ [27, 7, 28, 29, 30, 31, 32, 33, 34, 35, 36, 37, 38, 39] (by decide +kernel) (by decide +kernel)
set_option maxRecDepth 20000 in
theorem gX11_longestRun_X11_granted : GoodIn wsX11_longestRun (wsV RX11 114 RX11 yX11_granted wsX11_granted) := goodIn_app (goodIn_of _ (by decide +kernel)) ggX11_longestRun_X11_granted
theorem dX11_longestRun_0 : decode cX11_longestRun 0 = .ok (.aload_n 0, 1) := by decide +kernel
theorem dX11_longestRun_1 : decode cX11_longestRun 1 = .ok (.getfield 63, 3) := by decide +kernel
theorem dX11_longestRun_4 : decode cX11_longestRun 4 = .ok (.getfield 172, 3) := by decide +kernel
theorem dX11_longestRun_7 : decode cX11_longestRun 7 = .ok (.ifCond .ne 10, 3) := by decide +kernel
theorem dX11_longestRun_10 : decode cX11_longestRun 10 = .ok (.aload_n 0, 1) := by decide +kernel
theorem dX11_longestRun_11 : decode cX11_longestRun 11 = .ok (.iconst 1, 1) := by decide +kernel
theorem dX11_longestRun_12 : decode cX11_longestRun 12 = .ok (.iconst (-1), 1) := by decide +kernel
theorem dX11_longestRun_13 : decode cX11_longestRun 13 = .ok (.invokevirtual 82, 3) := by decide +kernel
theorem dX11_longestRun_16 : decode cX11_longestRun 16 = .ok (.ireturn, 1) := by decide +kernel
theorem dX11_longestRun_17 : decode cX11_longestRun 17 = .ok (.iload_n 1, 1) := by decide +kernel
theorem dX11_longestRun_18 : decode cX11_longestRun 18 = .ok (.invokestatic 308, 3) := by decide +kernel
theorem dX11_longestRun_21 : decode cX11_longestRun 21 = .ok (.ifCond .ne 15, 3) := by decide +kernel
theorem dX11_longestRun_24 : decode cX11_longestRun 24 = .ok (.iload_n 2, 1) := by decide +kernel
theorem dX11_longestRun_25 : decode cX11_longestRun 25 = .ok (.iconst 1, 1) := by decide +kernel
theorem dX11_longestRun_26 : decode cX11_longestRun 26 = .ok (.if_icmp .lt 10, 3) := by decide +kernel
theorem dX11_longestRun_29 : decode cX11_longestRun 29 = .ok (.iload_n 2, 1) := by decide +kernel
theorem dX11_longestRun_30 : decode cX11_longestRun 30 = .ok (.sipush 200, 3) := by decide +kernel
theorem dX11_longestRun_33 : decode cX11_longestRun 33 = .ok (.if_icmp .le 10, 3) := by decide +kernel
theorem dX11_longestRun_36 : decode cX11_longestRun 36 = .ok (.aload_n 0, 1) := by decide +kernel
theorem dX11_longestRun_37 : decode cX11_longestRun 37 = .ok (.iconst 2, 1) := by decide +kernel
theorem dX11_longestRun_38 : decode cX11_longestRun 38 = .ok (.iconst (-1), 1) := by decide +kernel
theorem dX11_longestRun_39 : decode cX11_longestRun 39 = .ok (.invokevirtual 82, 3) := by decide +kernel
theorem dX11_longestRun_42 : decode cX11_longestRun 42 = .ok (.ireturn, 1) := by decide +kernel
theorem dX11_longestRun_43 : decode cX11_longestRun 43 = .ok (.aload_n 0, 1) := by decide +kernel
theorem dX11_longestRun_44 : decode cX11_longestRun 44 = .ok (.aload_n 0, 1) := by decide +kernel
theorem dX11_longestRun_45 : decode cX11_longestRun 45 = .ok (.getfield 63, 3) := by decide +kernel
theorem dX11_longestRun_48 : decode cX11_longestRun 48 = .ok (.getfield 283, 3) := by decide +kernel
theorem dX11_longestRun_51 : decode cX11_longestRun 51 = .ok (.iload_n 1, 1) := by decide +kernel
theorem dX11_longestRun_52 : decode cX11_longestRun 52 = .ok (.iload_n 2, 1) := by decide +kernel
theorem dX11_longestRun_53 : decode cX11_longestRun 53 = .ok (.invokestatic 314, 3) := by decide +kernel
theorem dX11_longestRun_56 : decode cX11_longestRun 56 = .ok (.invokevirtual 114, 3) := by decide +kernel
theorem dX11_longestRun_59 : decode cX11_longestRun 59 = .ok (.ireturn, 1) := by decide +kernel
theorem dX11_isNoSeed_0 : decode cX11_isNoSeed 0 = .ok (.iload_n 0, 1) := by decide +kernel
theorem dX11_isNoSeed_1 : decode cX11_isNoSeed 1 = .ok (.ifCond .lt 10, 3) := by decide +kernel
theorem dX11_isNoSeed_4 : decode cX11_isNoSeed 4 = .ok (.iload_n 0, 1) := by decide +kernel
theorem dX11_isNoSeed_5 : decode cX11_isNoSeed 5 = .ok (.ldc_w 317, 3) := by decide +kernel
theorem dX11_isNoSeed_8 : decode cX11_isNoSeed 8 = .ok (.if_icmp .le 7, 3) := by decide +kernel
theorem dX11_isNoSeed_11 : decode cX11_isNoSeed 11 = .ok (.iconst 1, 1) := by decide +kernel
theorem dX11_isNoSeed_12 : decode cX11_isNoSeed 12 = .ok (.goto 4, 3) := by decide +kernel
theorem dX11_isNoSeed_15 : decode cX11_isNoSeed 15 = .ok (.iconst 0, 1) := by decide +kernel
theorem dX11_isNoSeed_16 : decode cX11_isNoSeed 16 = .ok (.ireturn, 1) := by decide +kernel
set_option maxRecDepth 20000 in
theorem ggX11_slip_X11_lacks : GoodIn wsX11_slip wsX11_lacks := goodIn_r _ [6, 1, 57, 58, 59, 60, 61, 62, 63, 64, 65, 66, 67, 68, 69, 70, 71] (by decide +kernel) (by decide +kernel)
set_option maxRecDepth 20000 in
theorem gX11_slip_X11_lacks : GoodIn wsX11_slip (wsV RX11 121 RX11 yX11_lacks wsX11_lacks) := goodIn_app (goodIn_of _ (by decide +kernel)) ggX11_slip_X11_lacks
set_option maxRecDepth 20000 in
theorem ggX11_slip_X11_refused : GoodIn wsX11_slip wsX11_refused := goodIn_r _ [10, 11, 57, 58, 59, 60, 61, 62, 63, 64, 65, 66, 67, 68] (by decide +kernel) (by decide +kernel)
set_option maxRecDepth 20000 in
theorem gX11_slip_X11_refused : GoodIn wsX11_slip (wsV RX11 82 RX11 yX11_refused wsX11_refused) := goodIn_app (goodIn_of _ (by decide +kernel)) ggX11_slip_X11_refused
set_option maxRecDepth 20000 in
theorem ggX11_slip_X9_steps : GoodIn wsX11_slip wsX9_steps := goodIn_r _ [16, 17, 18, 5, 19, 69, 70, 71] (by decide +kernel) (by decide +kernel)
set_option maxRecDepth 20000 in
theorem gX11_slip_X9_steps : GoodIn wsX11_slip (wsV RX11 127 RX9 yX9_steps wsX9_steps) := goodIn_app (goodIn_of _ (by decide +kernel)) ggX11_slip_X9_steps
set_option maxRecDepth 20000 in
theorem ggX11_slip_X9_row : GoodIn wsX11_slip wsX9_row := goodIn_r _ [23, 24, 18, 5, 19, 69, 70, 71] (by decide +kernel) (by decide +kernel)
set_option maxRecDepth 20000 in
theorem gX11_slip_X9_row : GoodIn wsX11_slip (wsV RX11 124 RX9 yX9_row wsX9_row) := goodIn_app (goodIn_of _ (by decide +kernel)) ggX11_slip_X9_row
set_option maxRecDepth 20000 in
theorem ggX11_slip_X8_bit : GoodIn wsX11_slip wsX8_bit := goodIn_r _ [28] (by decide +kernel) (by decide +kernel)
set_option maxRecDepth 20000 in
theorem gX11_slip_X8_bit : GoodIn wsX11_slip (va_wsS RX11 222 yX8_bit wsX8_bit) := goodIn_app (goodIn_of _ (by decide +kernel)) ggX11_slip_X8_bit
set_option maxRecDepth 20000 in
theorem ggX11_slip_X11_change : GoodIn wsX11_slip wsX11_change := goodIn_r _ [32, 33, 1, 20, 21, 22, 15, 23, 24, 18, 5, 19, 12, 13, 14, 16, 17, 34, 35, 36, 37, 38, 39, 40, 41, 42, 43, 44, 45, 46, 47, 48, 49, 50, 51, 52, 57, 58, 59, 60, 61, 62, 63, 64, 65, 66, 67, 68, 69, 70, 71, 72, 73, 74, 75] (by decide +kernel) (by decide +kernel)
set_option maxRecDepth 20000 in
theorem gX11_slip_X11_change : GoodIn wsX11_slip (wsV RX11 318 RX11 yX11_change wsX11_change) := goodIn_app (goodIn_of _ (by decide +kernel)) ggX11_slip_X11_change
set_option maxRecDepth 20000 in
theorem ggX11_slip_X11_granted : GoodIn wsX11_slip wsX11_granted := goodIn_r _ [56, 11, 57, 58, 59, 60, 61, 62, 63, 64, 65, 66, 67, 68] (by decide +kernel) (by decide +kernel)
set_option maxRecDepth 20000 in
theorem gX11_slip_X11_granted : GoodIn wsX11_slip (wsV RX11 114 RX11 yX11_granted wsX11_granted) := goodIn_app (goodIn_of _ (by decide +kernel)) ggX11_slip_X11_granted
theorem dX11_slip_0 : decode cX11_slip 0 = .ok (.aload_n 0, 1) := by decide +kernel
theorem dX11_slip_1 : decode cX11_slip 1 = .ok (.iload_n 1, 1) := by decide +kernel
theorem dX11_slip_2 : decode cX11_slip 2 = .ok (.invokevirtual 121, 3) := by decide +kernel
theorem dX11_slip_5 : decode cX11_slip 5 = .ok (.ifCond .eq 10, 3) := by decide +kernel
theorem dX11_slip_8 : decode cX11_slip 8 = .ok (.aload_n 0, 1) := by decide +kernel
theorem dX11_slip_9 : decode cX11_slip 9 = .ok (.iconst 1, 1) := by decide +kernel
theorem dX11_slip_10 : decode cX11_slip 10 = .ok (.iconst (-1), 1) := by decide +kernel
theorem dX11_slip_11 : decode cX11_slip 11 = .ok (.invokevirtual 82, 3) := by decide +kernel
theorem dX11_slip_14 : decode cX11_slip 14 = .ok (.ireturn, 1) := by decide +kernel
theorem dX11_slip_15 : decode cX11_slip 15 = .ok (.aload_n 0, 1) := by decide +kernel
theorem dX11_slip_16 : decode cX11_slip 16 = .ok (.getfield 28, 3) := by decide +kernel
theorem dX11_slip_19 : decode cX11_slip 19 = .ok (.iload_n 1, 1) := by decide +kernel
theorem dX11_slip_20 : decode cX11_slip 20 = .ok (.invokevirtual 127, 3) := by decide +kernel
theorem dX11_slip_23 : decode cX11_slip 23 = .ok (.istore_n 3, 1) := by decide +kernel
theorem dX11_slip_24 : decode cX11_slip 24 = .ok (.iload_n 2, 1) := by decide +kernel
theorem dX11_slip_25 : decode cX11_slip 25 = .ok (.ifCond .lt 8, 3) := by decide +kernel
theorem dX11_slip_28 : decode cX11_slip 28 = .ok (.iload_n 2, 1) := by decide +kernel
theorem dX11_slip_29 : decode cX11_slip 29 = .ok (.iload_n 3, 1) := by decide +kernel
theorem dX11_slip_30 : decode cX11_slip 30 = .ok (.if_icmp .lt 10, 3) := by decide +kernel
theorem dX11_slip_33 : decode cX11_slip 33 = .ok (.aload_n 0, 1) := by decide +kernel
theorem dX11_slip_34 : decode cX11_slip 34 = .ok (.iconst 2, 1) := by decide +kernel
theorem dX11_slip_35 : decode cX11_slip 35 = .ok (.iconst (-1), 1) := by decide +kernel
theorem dX11_slip_36 : decode cX11_slip 36 = .ok (.invokevirtual 82, 3) := by decide +kernel
theorem dX11_slip_39 : decode cX11_slip 39 = .ok (.ireturn, 1) := by decide +kernel
theorem dX11_slip_40 : decode cX11_slip 40 = .ok (.aload_n 0, 1) := by decide +kernel
theorem dX11_slip_41 : decode cX11_slip 41 = .ok (.iload_n 1, 1) := by decide +kernel
theorem dX11_slip_42 : decode cX11_slip 42 = .ok (.aload_n 0, 1) := by decide +kernel
theorem dX11_slip_43 : decode cX11_slip 43 = .ok (.getfield 28, 3) := by decide +kernel
theorem dX11_slip_46 : decode cX11_slip 46 = .ok (.iload_n 1, 1) := by decide +kernel
theorem dX11_slip_47 : decode cX11_slip 47 = .ok (.invokevirtual 124, 3) := by decide +kernel
theorem dX11_slip_50 : decode cX11_slip 50 = .ok (.iload_n 3, 1) := by decide +kernel
theorem dX11_slip_51 : decode cX11_slip 51 = .ok (.iload_n 2, 1) := by decide +kernel
theorem dX11_slip_52 : decode cX11_slip 52 = .ok (.invokestatic 222, 3) := by decide +kernel
theorem dX11_slip_55 : decode cX11_slip 55 = .ok (.ixor, 1) := by decide +kernel
theorem dX11_slip_56 : decode cX11_slip 56 = .ok (.iload_n 3, 1) := by decide +kernel
theorem dX11_slip_57 : decode cX11_slip 57 = .ok (.invokevirtual 318, 3) := by decide +kernel
theorem dX11_slip_60 : decode cX11_slip 60 = .ok (.aload_n 0, 1) := by decide +kernel
theorem dX11_slip_61 : decode cX11_slip 61 = .ok (.aload_n 0, 1) := by decide +kernel
theorem dX11_slip_62 : decode cX11_slip 62 = .ok (.getfield 28, 3) := by decide +kernel
theorem dX11_slip_65 : decode cX11_slip 65 = .ok (.iload_n 1, 1) := by decide +kernel
theorem dX11_slip_66 : decode cX11_slip 66 = .ok (.invokevirtual 124, 3) := by decide +kernel
theorem dX11_slip_69 : decode cX11_slip 69 = .ok (.invokevirtual 114, 3) := by decide +kernel
theorem dX11_slip_72 : decode cX11_slip 72 = .ok (.ireturn, 1) := by decide +kernel
set_option maxRecDepth 20000 in
theorem ggX11_turn_X11_lacks : GoodIn wsX11_turn wsX11_lacks := goodIn_r _ [6, 1, 57, 58, 59, 60, 61, 62, 63, 64, 65, 66, 67, 68, 69, 70, 71] (by decide +kernel) (by decide +kernel)
set_option maxRecDepth 20000 in
theorem gX11_turn_X11_lacks : GoodIn wsX11_turn (wsV RX11 121 RX11 yX11_lacks wsX11_lacks) := goodIn_app (goodIn_of _ (by decide +kernel)) ggX11_turn_X11_lacks
set_option maxRecDepth 20000 in
theorem ggX11_turn_X11_refused : GoodIn wsX11_turn wsX11_refused := goodIn_r _ [10, 11, 57, 58, 59, 60, 61, 62, 63, 64, 65, 66, 67, 68] (by decide +kernel) (by decide +kernel)
set_option maxRecDepth 20000 in
theorem gX11_turn_X11_refused : GoodIn wsX11_turn (wsV RX11 82 RX11 yX11_refused wsX11_refused) := goodIn_app (goodIn_of _ (by decide +kernel)) ggX11_turn_X11_refused
set_option maxRecDepth 20000 in
theorem ggX11_turn_X9_steps : GoodIn wsX11_turn wsX9_steps := goodIn_r _ [16, 17, 18, 5, 19, 69, 70, 71] (by decide +kernel) (by decide +kernel)
set_option maxRecDepth 20000 in
theorem gX11_turn_X9_steps : GoodIn wsX11_turn (wsV RX11 127 RX9 yX9_steps wsX9_steps) := goodIn_app (goodIn_of _ (by decide +kernel)) ggX11_turn_X9_steps
set_option maxRecDepth 20000 in
theorem ggX11_turn_X9_row : GoodIn wsX11_turn wsX9_row := goodIn_r _ [23, 24, 18, 5, 19, 69, 70, 71] (by decide +kernel) (by decide +kernel)
set_option maxRecDepth 20000 in
theorem gX11_turn_X9_row : GoodIn wsX11_turn (wsV RX11 124 RX9 yX9_row wsX9_row) := goodIn_app (goodIn_of _ (by decide +kernel)) ggX11_turn_X9_row
set_option maxRecDepth 20000 in
theorem ggX11_turn_X8_turned : GoodIn wsX11_turn wsX8_turned := goodIn_r _ [28] (by decide +kernel) (by decide +kernel)
set_option maxRecDepth 20000 in
theorem gX11_turn_X8_turned : GoodIn wsX11_turn (va_wsS RX11 322 yX8_turned wsX8_turned) := goodIn_app (goodIn_of _ (by decide +kernel)) ggX11_turn_X8_turned
set_option maxRecDepth 20000 in
theorem ggX11_turn_X11_change : GoodIn wsX11_turn wsX11_change := goodIn_r _ [32, 33, 1, 20, 21, 22, 15, 23, 24, 18, 5, 19, 12, 13, 14, 16, 17, 34, 35, 36, 37, 38, 39, 40, 41, 42, 43, 44, 45, 46, 47, 48, 49, 50, 51, 52, 57, 58, 59, 60, 61, 62, 63, 64, 65, 66, 67, 68, 69, 70, 71, 72, 73, 74, 75] (by decide +kernel) (by decide +kernel)
set_option maxRecDepth 20000 in
theorem gX11_turn_X11_change : GoodIn wsX11_turn (wsV RX11 318 RX11 yX11_change wsX11_change) := goodIn_app (goodIn_of _ (by decide +kernel)) ggX11_turn_X11_change
set_option maxRecDepth 20000 in
theorem ggX11_turn_X11_granted : GoodIn wsX11_turn wsX11_granted := goodIn_r _ [56, 11, 57, 58, 59, 60, 61, 62, 63, 64, 65, 66, 67, 68] (by decide +kernel) (by decide +kernel)
set_option maxRecDepth 20000 in
theorem gX11_turn_X11_granted : GoodIn wsX11_turn (wsV RX11 114 RX11 yX11_granted wsX11_granted) := goodIn_app (goodIn_of _ (by decide +kernel)) ggX11_turn_X11_granted
theorem dX11_turn_0 : decode cX11_turn 0 = .ok (.aload_n 0, 1) := by decide +kernel
theorem dX11_turn_1 : decode cX11_turn 1 = .ok (.iload_n 1, 1) := by decide +kernel
theorem dX11_turn_2 : decode cX11_turn 2 = .ok (.invokevirtual 121, 3) := by decide +kernel
theorem dX11_turn_5 : decode cX11_turn 5 = .ok (.ifCond .eq 10, 3) := by decide +kernel
theorem dX11_turn_8 : decode cX11_turn 8 = .ok (.aload_n 0, 1) := by decide +kernel
theorem dX11_turn_9 : decode cX11_turn 9 = .ok (.iconst 1, 1) := by decide +kernel
theorem dX11_turn_10 : decode cX11_turn 10 = .ok (.iconst (-1), 1) := by decide +kernel
theorem dX11_turn_11 : decode cX11_turn 11 = .ok (.invokevirtual 82, 3) := by decide +kernel
theorem dX11_turn_14 : decode cX11_turn 14 = .ok (.ireturn, 1) := by decide +kernel
theorem dX11_turn_15 : decode cX11_turn 15 = .ok (.aload_n 0, 1) := by decide +kernel
theorem dX11_turn_16 : decode cX11_turn 16 = .ok (.getfield 28, 3) := by decide +kernel
theorem dX11_turn_19 : decode cX11_turn 19 = .ok (.iload_n 1, 1) := by decide +kernel
theorem dX11_turn_20 : decode cX11_turn 20 = .ok (.invokevirtual 127, 3) := by decide +kernel
theorem dX11_turn_23 : decode cX11_turn 23 = .ok (.istore_n 2, 1) := by decide +kernel
theorem dX11_turn_24 : decode cX11_turn 24 = .ok (.aload_n 0, 1) := by decide +kernel
theorem dX11_turn_25 : decode cX11_turn 25 = .ok (.iload_n 1, 1) := by decide +kernel
theorem dX11_turn_26 : decode cX11_turn 26 = .ok (.aload_n 0, 1) := by decide +kernel
theorem dX11_turn_27 : decode cX11_turn 27 = .ok (.getfield 28, 3) := by decide +kernel
theorem dX11_turn_30 : decode cX11_turn 30 = .ok (.iload_n 1, 1) := by decide +kernel
theorem dX11_turn_31 : decode cX11_turn 31 = .ok (.invokevirtual 124, 3) := by decide +kernel
theorem dX11_turn_34 : decode cX11_turn 34 = .ok (.iload_n 2, 1) := by decide +kernel
theorem dX11_turn_35 : decode cX11_turn 35 = .ok (.invokestatic 322, 3) := by decide +kernel
theorem dX11_turn_38 : decode cX11_turn 38 = .ok (.iload_n 2, 1) := by decide +kernel
theorem dX11_turn_39 : decode cX11_turn 39 = .ok (.invokevirtual 318, 3) := by decide +kernel
theorem dX11_turn_42 : decode cX11_turn 42 = .ok (.aload_n 0, 1) := by decide +kernel
theorem dX11_turn_43 : decode cX11_turn 43 = .ok (.aload_n 0, 1) := by decide +kernel
theorem dX11_turn_44 : decode cX11_turn 44 = .ok (.getfield 28, 3) := by decide +kernel
theorem dX11_turn_47 : decode cX11_turn 47 = .ok (.iload_n 1, 1) := by decide +kernel
theorem dX11_turn_48 : decode cX11_turn 48 = .ok (.invokevirtual 124, 3) := by decide +kernel
theorem dX11_turn_51 : decode cX11_turn 51 = .ok (.invokevirtual 114, 3) := by decide +kernel
theorem dX11_turn_54 : decode cX11_turn 54 = .ok (.ireturn, 1) := by decide +kernel
set_option maxRecDepth 20000 in
theorem ggX11_twin_X11_lacks : GoodIn wsX11_twin wsX11_lacks := goodIn_r _ [6, 1, 60, 61, 62, 63, 64, 65, 66, 67, 68, 69, 70, 71, 72, 73, 74] (by decide +kernel) (by decide +kernel)
set_option maxRecDepth 20000 in
theorem gX11_twin_X11_lacks : GoodIn wsX11_twin (wsV RX11 121 RX11 yX11_lacks wsX11_lacks) := goodIn_app (goodIn_of _ (by decide +kernel)) ggX11_twin_X11_lacks
set_option maxRecDepth 20000 in
theorem ggX11_twin_X11_refused : GoodIn wsX11_twin wsX11_refused := goodIn_r _ [10, 11, 60, 61, 62, 63, 64, 65, 66, 67, 68, 69, 70, 71] (by decide +kernel) (by decide +kernel)
set_option maxRecDepth 20000 in
theorem gX11_twin_X11_refused : GoodIn wsX11_twin (wsV RX11 82 RX11 yX11_refused wsX11_refused) := goodIn_app (goodIn_of _ (by decide +kernel)) ggX11_twin_X11_refused
set_option maxRecDepth 20000 in
theorem ggX11_twin_X9_steps : GoodIn wsX11_twin wsX9_steps := goodIn_r _ [16, 17, 18, 5, 19, 72, 73, 74] (by decide +kernel) (by decide +kernel)
set_option maxRecDepth 20000 in
theorem gX11_twin_X9_steps : GoodIn wsX11_twin (wsV RX11 127 RX9 yX9_steps wsX9_steps) := goodIn_app (goodIn_of _ (by decide +kernel)) ggX11_twin_X9_steps
set_option maxRecDepth 20000 in
theorem ggX11_twin_X9_row : GoodIn wsX11_twin wsX9_row := goodIn_r _ [23, 24, 18, 5, 19, 72, 73, 74] (by decide +kernel) (by decide +kernel)
set_option maxRecDepth 20000 in
theorem gX11_twin_X9_row : GoodIn wsX11_twin (wsV RX11 124 RX9 yX9_row wsX9_row) := goodIn_app (goodIn_of _ (by decide +kernel)) ggX11_twin_X9_row
set_option maxRecDepth 20000 in
theorem ggX11_twin_X8_twinned : GoodIn wsX11_twin wsX8_twinned := goodIn_r _ [28, 29, 30, 27, 31] (by decide +kernel) (by decide +kernel)
set_option maxRecDepth 20000 in
theorem gX11_twin_X8_twinned : GoodIn wsX11_twin (va_wsS RX11 325 yX8_twinned wsX8_twinned) := goodIn_app (goodIn_of _ (by decide +kernel)) ggX11_twin_X8_twinned
set_option maxRecDepth 20000 in
theorem ggX11_twin_X11_change : GoodIn wsX11_twin wsX11_change := goodIn_r _ [35, 36, 1, 20, 21, 22, 15, 23, 24, 18, 5, 19, 12, 13, 14, 16, 17, 37, 38, 39, 40, 41, 42, 43, 44, 45, 46, 47, 48, 49, 50, 51, 52, 53, 54, 55, 60, 61, 62, 63, 64, 65, 66, 67, 68, 69, 70, 71, 72, 73, 74, 75, 76, 77, 78] (by decide +kernel) (by decide +kernel)
set_option maxRecDepth 20000 in
theorem gX11_twin_X11_change : GoodIn wsX11_twin (wsV RX11 318 RX11 yX11_change wsX11_change) := goodIn_app (goodIn_of _ (by decide +kernel)) ggX11_twin_X11_change
set_option maxRecDepth 20000 in
theorem ggX11_twin_X11_granted : GoodIn wsX11_twin wsX11_granted := goodIn_r _ [59, 11, 60, 61, 62, 63, 64, 65, 66, 67, 68, 69, 70, 71] (by decide +kernel) (by decide +kernel)
set_option maxRecDepth 20000 in
theorem gX11_twin_X11_granted : GoodIn wsX11_twin (wsV RX11 114 RX11 yX11_granted wsX11_granted) := goodIn_app (goodIn_of _ (by decide +kernel)) ggX11_twin_X11_granted
theorem dX11_twin_0 : decode cX11_twin 0 = .ok (.aload_n 0, 1) := by decide +kernel
theorem dX11_twin_1 : decode cX11_twin 1 = .ok (.iload_n 1, 1) := by decide +kernel
theorem dX11_twin_2 : decode cX11_twin 2 = .ok (.invokevirtual 121, 3) := by decide +kernel
theorem dX11_twin_5 : decode cX11_twin 5 = .ok (.ifCond .eq 10, 3) := by decide +kernel
theorem dX11_twin_8 : decode cX11_twin 8 = .ok (.aload_n 0, 1) := by decide +kernel
theorem dX11_twin_9 : decode cX11_twin 9 = .ok (.iconst 1, 1) := by decide +kernel
theorem dX11_twin_10 : decode cX11_twin 10 = .ok (.iconst (-1), 1) := by decide +kernel
theorem dX11_twin_11 : decode cX11_twin 11 = .ok (.invokevirtual 82, 3) := by decide +kernel
theorem dX11_twin_14 : decode cX11_twin 14 = .ok (.ireturn, 1) := by decide +kernel
theorem dX11_twin_15 : decode cX11_twin 15 = .ok (.aload_n 0, 1) := by decide +kernel
theorem dX11_twin_16 : decode cX11_twin 16 = .ok (.getfield 28, 3) := by decide +kernel
theorem dX11_twin_19 : decode cX11_twin 19 = .ok (.iload_n 1, 1) := by decide +kernel
theorem dX11_twin_20 : decode cX11_twin 20 = .ok (.invokevirtual 127, 3) := by decide +kernel
theorem dX11_twin_23 : decode cX11_twin 23 = .ok (.istore_n 2, 1) := by decide +kernel
theorem dX11_twin_24 : decode cX11_twin 24 = .ok (.aload_n 0, 1) := by decide +kernel
theorem dX11_twin_25 : decode cX11_twin 25 = .ok (.iload_n 1, 1) := by decide +kernel
theorem dX11_twin_26 : decode cX11_twin 26 = .ok (.aload_n 0, 1) := by decide +kernel
theorem dX11_twin_27 : decode cX11_twin 27 = .ok (.getfield 28, 3) := by decide +kernel
theorem dX11_twin_30 : decode cX11_twin 30 = .ok (.iload_n 1, 1) := by decide +kernel
theorem dX11_twin_31 : decode cX11_twin 31 = .ok (.invokevirtual 124, 3) := by decide +kernel
theorem dX11_twin_34 : decode cX11_twin 34 = .ok (.iload_n 2, 1) := by decide +kernel
theorem dX11_twin_35 : decode cX11_twin 35 = .ok (.invokestatic 325, 3) := by decide +kernel
theorem dX11_twin_38 : decode cX11_twin 38 = .ok (.iload_n 2, 1) := by decide +kernel
theorem dX11_twin_39 : decode cX11_twin 39 = .ok (.invokevirtual 318, 3) := by decide +kernel
theorem dX11_twin_42 : decode cX11_twin 42 = .ok (.aload_n 0, 1) := by decide +kernel
theorem dX11_twin_43 : decode cX11_twin 43 = .ok (.aload_n 0, 1) := by decide +kernel
theorem dX11_twin_44 : decode cX11_twin 44 = .ok (.getfield 28, 3) := by decide +kernel
theorem dX11_twin_47 : decode cX11_twin 47 = .ok (.iload_n 1, 1) := by decide +kernel
theorem dX11_twin_48 : decode cX11_twin 48 = .ok (.invokevirtual 124, 3) := by decide +kernel
theorem dX11_twin_51 : decode cX11_twin 51 = .ok (.invokevirtual 114, 3) := by decide +kernel
theorem dX11_twin_54 : decode cX11_twin 54 = .ok (.ireturn, 1) := by decide +kernel
set_option maxRecDepth 20000 in
theorem ggX11_grow_X11_lacks : GoodIn wsX11_grow wsX11_lacks := goodIn_r _ [6, 1, 53, 54, 55, 56, 57, 58, 59, 60, 61, 62, 63, 64, 65, 66, 67] (by decide +kernel) (by decide +kernel)
set_option maxRecDepth 20000 in
theorem gX11_grow_X11_lacks : GoodIn wsX11_grow (wsV RX11 121 RX11 yX11_lacks wsX11_lacks) := goodIn_app (goodIn_of _ (by decide +kernel)) ggX11_grow_X11_lacks
set_option maxRecDepth 20000 in
theorem ggX11_grow_X11_refused : GoodIn wsX11_grow wsX11_refused := goodIn_r _ [10, 11, 53, 54, 55, 56, 57, 58, 59, 60, 61, 62, 63, 64] (by decide +kernel) (by decide +kernel)
set_option maxRecDepth 20000 in
theorem gX11_grow_X11_refused : GoodIn wsX11_grow (wsV RX11 82 RX11 yX11_refused wsX11_refused) := goodIn_app (goodIn_of _ (by decide +kernel)) ggX11_grow_X11_refused
set_option maxRecDepth 20000 in
theorem ggX11_grow_X9_steps : GoodIn wsX11_grow wsX9_steps := goodIn_r _ [16, 17, 18, 5, 19, 65, 66, 67] (by decide +kernel) (by decide +kernel)
set_option maxRecDepth 20000 in
theorem gX11_grow_X9_steps : GoodIn wsX11_grow (wsV RX11 127 RX9 yX9_steps wsX9_steps) := goodIn_app (goodIn_of _ (by decide +kernel)) ggX11_grow_X9_steps
set_option maxRecDepth 20000 in
theorem ggX11_grow_X9_row : GoodIn wsX11_grow wsX9_row := goodIn_r _ [23, 24, 18, 5, 19, 65, 66, 67] (by decide +kernel) (by decide +kernel)
set_option maxRecDepth 20000 in
theorem gX11_grow_X9_row : GoodIn wsX11_grow (wsV RX11 124 RX9 yX9_row wsX9_row) := goodIn_app (goodIn_of _ (by decide +kernel)) ggX11_grow_X9_row
set_option maxRecDepth 20000 in
theorem ggX11_grow_X11_change : GoodIn wsX11_grow wsX11_change := goodIn_r _ [28, 29, 1, 20, 21, 22, 15, 23, 24, 18, 5, 19, 12, 13, 14, 16, 17, 30, 31, 32, 33, 34, 35, 36, 37, 38, 39, 40, 41, 42, 43, 44, 45, 46, 47, 48, 53, 54, 55, 56, 57, 58, 59, 60, 61, 62, 63, 64, 65, 66, 67, 68, 69, 70, 71] (by decide +kernel) (by decide +kernel)
set_option maxRecDepth 20000 in
theorem gX11_grow_X11_change : GoodIn wsX11_grow (wsV RX11 318 RX11 yX11_change wsX11_change) := goodIn_app (goodIn_of _ (by decide +kernel)) ggX11_grow_X11_change
set_option maxRecDepth 20000 in
theorem ggX11_grow_X11_granted : GoodIn wsX11_grow wsX11_granted := goodIn_r _ [52, 11, 53, 54, 55, 56, 57, 58, 59, 60, 61, 62, 63, 64] (by decide +kernel) (by decide +kernel)
set_option maxRecDepth 20000 in
theorem gX11_grow_X11_granted : GoodIn wsX11_grow (wsV RX11 114 RX11 yX11_granted wsX11_granted) := goodIn_app (goodIn_of _ (by decide +kernel)) ggX11_grow_X11_granted
theorem dX11_grow_0 : decode cX11_grow 0 = .ok (.aload_n 0, 1) := by decide +kernel
theorem dX11_grow_1 : decode cX11_grow 1 = .ok (.iload_n 1, 1) := by decide +kernel
theorem dX11_grow_2 : decode cX11_grow 2 = .ok (.invokevirtual 121, 3) := by decide +kernel
theorem dX11_grow_5 : decode cX11_grow 5 = .ok (.ifCond .eq 10, 3) := by decide +kernel
theorem dX11_grow_8 : decode cX11_grow 8 = .ok (.aload_n 0, 1) := by decide +kernel
theorem dX11_grow_9 : decode cX11_grow 9 = .ok (.iconst 1, 1) := by decide +kernel
theorem dX11_grow_10 : decode cX11_grow 10 = .ok (.iconst (-1), 1) := by decide +kernel
theorem dX11_grow_11 : decode cX11_grow 11 = .ok (.invokevirtual 82, 3) := by decide +kernel
theorem dX11_grow_14 : decode cX11_grow 14 = .ok (.ireturn, 1) := by decide +kernel
theorem dX11_grow_15 : decode cX11_grow 15 = .ok (.aload_n 0, 1) := by decide +kernel
theorem dX11_grow_16 : decode cX11_grow 16 = .ok (.getfield 28, 3) := by decide +kernel
theorem dX11_grow_19 : decode cX11_grow 19 = .ok (.iload_n 1, 1) := by decide +kernel
theorem dX11_grow_20 : decode cX11_grow 20 = .ok (.invokevirtual 127, 3) := by decide +kernel
theorem dX11_grow_23 : decode cX11_grow 23 = .ok (.istore_n 3, 1) := by decide +kernel
theorem dX11_grow_24 : decode cX11_grow 24 = .ok (.iload_n 3, 1) := by decide +kernel
theorem dX11_grow_25 : decode cX11_grow 25 = .ok (.bipush 12, 2) := by decide +kernel
theorem dX11_grow_27 : decode cX11_grow 27 = .ok (.if_icmp .lt 10, 3) := by decide +kernel
theorem dX11_grow_30 : decode cX11_grow 30 = .ok (.aload_n 0, 1) := by decide +kernel
theorem dX11_grow_31 : decode cX11_grow 31 = .ok (.iconst 3, 1) := by decide +kernel
theorem dX11_grow_32 : decode cX11_grow 32 = .ok (.iconst (-1), 1) := by decide +kernel
theorem dX11_grow_33 : decode cX11_grow 33 = .ok (.invokevirtual 82, 3) := by decide +kernel
theorem dX11_grow_36 : decode cX11_grow 36 = .ok (.ireturn, 1) := by decide +kernel
theorem dX11_grow_37 : decode cX11_grow 37 = .ok (.aload_n 0, 1) := by decide +kernel
theorem dX11_grow_38 : decode cX11_grow 38 = .ok (.iload_n 1, 1) := by decide +kernel
theorem dX11_grow_39 : decode cX11_grow 39 = .ok (.aload_n 0, 1) := by decide +kernel
theorem dX11_grow_40 : decode cX11_grow 40 = .ok (.getfield 28, 3) := by decide +kernel
theorem dX11_grow_43 : decode cX11_grow 43 = .ok (.iload_n 1, 1) := by decide +kernel
theorem dX11_grow_44 : decode cX11_grow 44 = .ok (.invokevirtual 124, 3) := by decide +kernel
theorem dX11_grow_47 : decode cX11_grow 47 = .ok (.iconst 2, 1) := by decide +kernel
theorem dX11_grow_48 : decode cX11_grow 48 = .ok (.imul, 1) := by decide +kernel
theorem dX11_grow_49 : decode cX11_grow 49 = .ok (.iload_n 2, 1) := by decide +kernel
theorem dX11_grow_50 : decode cX11_grow 50 = .ok (.ifCond .eq 7, 3) := by decide +kernel
theorem dX11_grow_53 : decode cX11_grow 53 = .ok (.iconst 1, 1) := by decide +kernel
theorem dX11_grow_54 : decode cX11_grow 54 = .ok (.goto 4, 3) := by decide +kernel
theorem dX11_grow_57 : decode cX11_grow 57 = .ok (.iconst 0, 1) := by decide +kernel
theorem dX11_grow_58 : decode cX11_grow 58 = .ok (.iadd, 1) := by decide +kernel
theorem dX11_grow_59 : decode cX11_grow 59 = .ok (.iload_n 3, 1) := by decide +kernel
theorem dX11_grow_60 : decode cX11_grow 60 = .ok (.iconst 1, 1) := by decide +kernel
theorem dX11_grow_61 : decode cX11_grow 61 = .ok (.iadd, 1) := by decide +kernel
theorem dX11_grow_62 : decode cX11_grow 62 = .ok (.invokevirtual 318, 3) := by decide +kernel
theorem dX11_grow_65 : decode cX11_grow 65 = .ok (.aload_n 0, 1) := by decide +kernel
theorem dX11_grow_66 : decode cX11_grow 66 = .ok (.iload_n 3, 1) := by decide +kernel
theorem dX11_grow_67 : decode cX11_grow 67 = .ok (.iconst 1, 1) := by decide +kernel
theorem dX11_grow_68 : decode cX11_grow 68 = .ok (.iadd, 1) := by decide +kernel
theorem dX11_grow_69 : decode cX11_grow 69 = .ok (.invokevirtual 114, 3) := by decide +kernel
theorem dX11_grow_72 : decode cX11_grow 72 = .ok (.ireturn, 1) := by decide +kernel
set_option maxRecDepth 20000 in
theorem ggX11_cut_X11_lacks : GoodIn wsX11_cut wsX11_lacks := goodIn_r _ [6, 1, 53, 54, 55, 56, 57, 58, 59, 60, 61, 62, 63, 64, 65, 66, 67] (by decide +kernel) (by decide +kernel)
set_option maxRecDepth 20000 in
theorem gX11_cut_X11_lacks : GoodIn wsX11_cut (wsV RX11 121 RX11 yX11_lacks wsX11_lacks) := goodIn_app (goodIn_of _ (by decide +kernel)) ggX11_cut_X11_lacks
set_option maxRecDepth 20000 in
theorem ggX11_cut_X11_refused : GoodIn wsX11_cut wsX11_refused := goodIn_r _ [10, 11, 53, 54, 55, 56, 57, 58, 59, 60, 61, 62, 63, 64] (by decide +kernel) (by decide +kernel)
set_option maxRecDepth 20000 in
theorem gX11_cut_X11_refused : GoodIn wsX11_cut (wsV RX11 82 RX11 yX11_refused wsX11_refused) := goodIn_app (goodIn_of _ (by decide +kernel)) ggX11_cut_X11_refused
set_option maxRecDepth 20000 in
theorem ggX11_cut_X9_steps : GoodIn wsX11_cut wsX9_steps := goodIn_r _ [16, 17, 18, 5, 19, 65, 66, 67] (by decide +kernel) (by decide +kernel)
set_option maxRecDepth 20000 in
theorem gX11_cut_X9_steps : GoodIn wsX11_cut (wsV RX11 127 RX9 yX9_steps wsX9_steps) := goodIn_app (goodIn_of _ (by decide +kernel)) ggX11_cut_X9_steps
set_option maxRecDepth 20000 in
theorem ggX11_cut_X9_row : GoodIn wsX11_cut wsX9_row := goodIn_r _ [23, 24, 18, 5, 19, 65, 66, 67] (by decide +kernel) (by decide +kernel)
set_option maxRecDepth 20000 in
theorem gX11_cut_X9_row : GoodIn wsX11_cut (wsV RX11 124 RX9 yX9_row wsX9_row) := goodIn_app (goodIn_of _ (by decide +kernel)) ggX11_cut_X9_row
set_option maxRecDepth 20000 in
theorem ggX11_cut_X11_change : GoodIn wsX11_cut wsX11_change := goodIn_r _ [28, 29, 1, 20, 21, 22, 15, 23, 24, 18, 5, 19, 12, 13, 14, 16, 17, 30, 31, 32, 33, 34, 35, 36, 37, 38, 39, 40, 41, 42, 43, 44, 45, 46, 47, 48, 53, 54, 55, 56, 57, 58, 59, 60, 61, 62, 63, 64, 65, 66, 67, 68, 69, 70, 71] (by decide +kernel) (by decide +kernel)
set_option maxRecDepth 20000 in
theorem gX11_cut_X11_change : GoodIn wsX11_cut (wsV RX11 318 RX11 yX11_change wsX11_change) := goodIn_app (goodIn_of _ (by decide +kernel)) ggX11_cut_X11_change
set_option maxRecDepth 20000 in
theorem ggX11_cut_X11_granted : GoodIn wsX11_cut wsX11_granted := goodIn_r _ [52, 11, 53, 54, 55, 56, 57, 58, 59, 60, 61, 62, 63, 64] (by decide +kernel) (by decide +kernel)
set_option maxRecDepth 20000 in
theorem gX11_cut_X11_granted : GoodIn wsX11_cut (wsV RX11 114 RX11 yX11_granted wsX11_granted) := goodIn_app (goodIn_of _ (by decide +kernel)) ggX11_cut_X11_granted
theorem dX11_cut_0 : decode cX11_cut 0 = .ok (.aload_n 0, 1) := by decide +kernel
theorem dX11_cut_1 : decode cX11_cut 1 = .ok (.iload_n 1, 1) := by decide +kernel
theorem dX11_cut_2 : decode cX11_cut 2 = .ok (.invokevirtual 121, 3) := by decide +kernel
theorem dX11_cut_5 : decode cX11_cut 5 = .ok (.ifCond .eq 10, 3) := by decide +kernel
theorem dX11_cut_8 : decode cX11_cut 8 = .ok (.aload_n 0, 1) := by decide +kernel
theorem dX11_cut_9 : decode cX11_cut 9 = .ok (.iconst 1, 1) := by decide +kernel
theorem dX11_cut_10 : decode cX11_cut 10 = .ok (.iconst (-1), 1) := by decide +kernel
theorem dX11_cut_11 : decode cX11_cut 11 = .ok (.invokevirtual 82, 3) := by decide +kernel
theorem dX11_cut_14 : decode cX11_cut 14 = .ok (.ireturn, 1) := by decide +kernel
theorem dX11_cut_15 : decode cX11_cut 15 = .ok (.aload_n 0, 1) := by decide +kernel
theorem dX11_cut_16 : decode cX11_cut 16 = .ok (.getfield 28, 3) := by decide +kernel
theorem dX11_cut_19 : decode cX11_cut 19 = .ok (.iload_n 1, 1) := by decide +kernel
theorem dX11_cut_20 : decode cX11_cut 20 = .ok (.invokevirtual 127, 3) := by decide +kernel
theorem dX11_cut_23 : decode cX11_cut 23 = .ok (.istore_n 2, 1) := by decide +kernel
theorem dX11_cut_24 : decode cX11_cut 24 = .ok (.iload_n 2, 1) := by decide +kernel
theorem dX11_cut_25 : decode cX11_cut 25 = .ok (.iconst 2, 1) := by decide +kernel
theorem dX11_cut_26 : decode cX11_cut 26 = .ok (.if_icmp .gt 10, 3) := by decide +kernel
theorem dX11_cut_29 : decode cX11_cut 29 = .ok (.aload_n 0, 1) := by decide +kernel
theorem dX11_cut_30 : decode cX11_cut 30 = .ok (.iconst 5, 1) := by decide +kernel
theorem dX11_cut_31 : decode cX11_cut 31 = .ok (.iconst (-1), 1) := by decide +kernel
theorem dX11_cut_32 : decode cX11_cut 32 = .ok (.invokevirtual 82, 3) := by decide +kernel
theorem dX11_cut_35 : decode cX11_cut 35 = .ok (.ireturn, 1) := by decide +kernel
theorem dX11_cut_36 : decode cX11_cut 36 = .ok (.aload_n 0, 1) := by decide +kernel
theorem dX11_cut_37 : decode cX11_cut 37 = .ok (.iload_n 1, 1) := by decide +kernel
theorem dX11_cut_38 : decode cX11_cut 38 = .ok (.aload_n 0, 1) := by decide +kernel
theorem dX11_cut_39 : decode cX11_cut 39 = .ok (.getfield 28, 3) := by decide +kernel
theorem dX11_cut_42 : decode cX11_cut 42 = .ok (.iload_n 1, 1) := by decide +kernel
theorem dX11_cut_43 : decode cX11_cut 43 = .ok (.invokevirtual 124, 3) := by decide +kernel
theorem dX11_cut_46 : decode cX11_cut 46 = .ok (.iconst 1, 1) := by decide +kernel
theorem dX11_cut_47 : decode cX11_cut 47 = .ok (.ishr, 1) := by decide +kernel
theorem dX11_cut_48 : decode cX11_cut 48 = .ok (.iload_n 2, 1) := by decide +kernel
theorem dX11_cut_49 : decode cX11_cut 49 = .ok (.iconst 1, 1) := by decide +kernel
theorem dX11_cut_50 : decode cX11_cut 50 = .ok (.isub, 1) := by decide +kernel
theorem dX11_cut_51 : decode cX11_cut 51 = .ok (.invokevirtual 318, 3) := by decide +kernel
theorem dX11_cut_54 : decode cX11_cut 54 = .ok (.aload_n 0, 1) := by decide +kernel
theorem dX11_cut_55 : decode cX11_cut 55 = .ok (.iload_n 2, 1) := by decide +kernel
theorem dX11_cut_56 : decode cX11_cut 56 = .ok (.iconst 1, 1) := by decide +kernel
theorem dX11_cut_57 : decode cX11_cut 57 = .ok (.isub, 1) := by decide +kernel
theorem dX11_cut_58 : decode cX11_cut 58 = .ok (.invokevirtual 114, 3) := by decide +kernel
theorem dX11_cut_61 : decode cX11_cut 61 = .ok (.ireturn, 1) := by decide +kernel
set_option maxRecDepth 20000 in
theorem ggX11_undo_X0_takeBack : GoodIn wsX11_undo wsX0_takeBack := goodIn_r _ [8, 9, 10, 11, 12, 13, 14, 15, 16, 17, 18, 19, 20, 21, 22, 23, 24, 37, 38, 39, 40, 41, 42, 43] (by decide +kernel) (by decide +kernel)
set_option maxRecDepth 20000 in
theorem gX11_undo_X0_takeBack : GoodIn wsX11_undo (wsV RX11 328 RX0 yX0_takeBack wsX0_takeBack) := goodIn_app (goodIn_of _ (by decide +kernel)) ggX11_undo_X0_takeBack
theorem dX11_undo_0 : decode cX11_undo 0 = .ok (.aload_n 0, 1) := by decide +kernel
theorem dX11_undo_1 : decode cX11_undo 1 = .ok (.getfield 35, 3) := by decide +kernel
theorem dX11_undo_4 : decode cX11_undo 4 = .ok (.getfield 109, 3) := by decide +kernel
theorem dX11_undo_7 : decode cX11_undo 7 = .ok (.ifCond .ne 11, 3) := by decide +kernel
theorem dX11_undo_10 : decode cX11_undo 10 = .ok (.aload_n 0, 1) := by decide +kernel
theorem dX11_undo_11 : decode cX11_undo 11 = .ok (.bipush 6, 2) := by decide +kernel
theorem dX11_undo_13 : decode cX11_undo 13 = .ok (.putfield 118, 3) := by decide +kernel
theorem dX11_undo_16 : decode cX11_undo 16 = .ok (.iconst 0, 1) := by decide +kernel
theorem dX11_undo_17 : decode cX11_undo 17 = .ok (.ireturn, 1) := by decide +kernel
theorem dX11_undo_18 : decode cX11_undo 18 = .ok (.aload_n 0, 1) := by decide +kernel
theorem dX11_undo_19 : decode cX11_undo 19 = .ok (.getfield 35, 3) := by decide +kernel
theorem dX11_undo_22 : decode cX11_undo 22 = .ok (.aload_n 0, 1) := by decide +kernel
theorem dX11_undo_23 : decode cX11_undo 23 = .ok (.getfield 28, 3) := by decide +kernel
theorem dX11_undo_26 : decode cX11_undo 26 = .ok (.invokevirtual 328, 3) := by decide +kernel
theorem dX11_undo_29 : decode cX11_undo 29 = .ok (.aload_n 0, 1) := by decide +kernel
theorem dX11_undo_30 : decode cX11_undo 30 = .ok (.iconst 0, 1) := by decide +kernel
theorem dX11_undo_31 : decode cX11_undo 31 = .ok (.putfield 118, 3) := by decide +kernel
theorem dX11_undo_34 : decode cX11_undo 34 = .ok (.iconst 1, 1) := by decide +kernel
theorem dX11_undo_35 : decode cX11_undo 35 = .ok (.ireturn, 1) := by decide +kernel
set_option maxRecDepth 20000 in
theorem ggX11_image_X11_refused : GoodIn wsX11_image wsX11_refused := goodIn_r _ [8, 9, 37, 38, 39, 40, 41, 42, 43, 44, 45, 46, 47, 48] (by decide +kernel) (by decide +kernel)
set_option maxRecDepth 20000 in
theorem gX11_image_X11_refused : GoodIn wsX11_image (wsV RX11 82 RX11 yX11_refused wsX11_refused) := goodIn_app (goodIn_of _ (by decide +kernel)) ggX11_image_X11_refused
set_option maxRecDepth 20000 in
theorem ggX11_image_X3_keep : GoodIn wsX11_image wsX3_keep := goodIn_r _ [14, 15, 16, 17, 18, 19, 20, 21, 22, 23, 24, 7, 25, 26, 27, 28, 29, 30, 31, 32, 63, 64, 65, 66, 67, 68] (by decide +kernel) (by decide +kernel)
set_option maxRecDepth 20000 in
theorem gX11_image_X3_keep : GoodIn wsX11_image (wsV RX11 331 RX3 yX3_keep wsX3_keep) := goodIn_app (goodIn_of _ (by decide +kernel)) ggX11_image_X3_keep
set_option maxRecDepth 20000 in
theorem ggX11_image_X11_granted : GoodIn wsX11_image wsX11_granted := goodIn_r _ [36, 9, 37, 38, 39, 40, 41, 42, 43, 44, 45, 46, 47, 48] (by decide +kernel) (by decide +kernel)
set_option maxRecDepth 20000 in
theorem gX11_image_X11_granted : GoodIn wsX11_image (wsV RX11 114 RX11 yX11_granted wsX11_granted) := goodIn_app (goodIn_of _ (by decide +kernel)) ggX11_image_X11_granted
theorem dX11_image_0 : decode cX11_image 0 = .ok (.aload_n 0, 1) := by decide +kernel
theorem dX11_image_1 : decode cX11_image 1 = .ok (.getfield 63, 3) := by decide +kernel
theorem dX11_image_4 : decode cX11_image 4 = .ok (.getfield 172, 3) := by decide +kernel
theorem dX11_image_7 : decode cX11_image 7 = .ok (.ifCond .ne 10, 3) := by decide +kernel
theorem dX11_image_10 : decode cX11_image 10 = .ok (.aload_n 0, 1) := by decide +kernel
theorem dX11_image_11 : decode cX11_image 11 = .ok (.iconst 1, 1) := by decide +kernel
theorem dX11_image_12 : decode cX11_image 12 = .ok (.iconst (-1), 1) := by decide +kernel
theorem dX11_image_13 : decode cX11_image 13 = .ok (.invokevirtual 82, 3) := by decide +kernel
theorem dX11_image_16 : decode cX11_image 16 = .ok (.ireturn, 1) := by decide +kernel
theorem dX11_image_17 : decode cX11_image 17 = .ok (.aload_n 0, 1) := by decide +kernel
theorem dX11_image_18 : decode cX11_image 18 = .ok (.getfield 42, 3) := by decide +kernel
theorem dX11_image_21 : decode cX11_image 21 = .ok (.getfield 112, 3) := by decide +kernel
theorem dX11_image_24 : decode cX11_image 24 = .ok (.iconst 3, 1) := by decide +kernel
theorem dX11_image_25 : decode cX11_image 25 = .ok (.if_icmp .lt 10, 3) := by decide +kernel
theorem dX11_image_28 : decode cX11_image 28 = .ok (.aload_n 0, 1) := by decide +kernel
theorem dX11_image_29 : decode cX11_image 29 = .ok (.iconst 3, 1) := by decide +kernel
theorem dX11_image_30 : decode cX11_image 30 = .ok (.iconst (-1), 1) := by decide +kernel
theorem dX11_image_31 : decode cX11_image 31 = .ok (.invokevirtual 82, 3) := by decide +kernel
theorem dX11_image_34 : decode cX11_image 34 = .ok (.ireturn, 1) := by decide +kernel
theorem dX11_image_35 : decode cX11_image 35 = .ok (.aload_n 0, 1) := by decide +kernel
theorem dX11_image_36 : decode cX11_image 36 = .ok (.aload_n 0, 1) := by decide +kernel
theorem dX11_image_37 : decode cX11_image 37 = .ok (.getfield 42, 3) := by decide +kernel
theorem dX11_image_40 : decode cX11_image 40 = .ok (.aload_n 0, 1) := by decide +kernel
theorem dX11_image_41 : decode cX11_image 41 = .ok (.getfield 28, 3) := by decide +kernel
theorem dX11_image_44 : decode cX11_image 44 = .ok (.invokevirtual 331, 3) := by decide +kernel
theorem dX11_image_47 : decode cX11_image 47 = .ok (.invokevirtual 114, 3) := by decide +kernel
theorem dX11_image_50 : decode cX11_image 50 = .ok (.ireturn, 1) := by decide +kernel
set_option maxRecDepth 20000 in
theorem ggX11_back_X3_bring : GoodIn wsX11_back wsX3_bring := goodIn_r _ [9, 10, 11, 12, 13, 14, 15, 16, 17, 18, 19, 20, 21, 22, 23, 36, 37, 38, 43, 44, 45] (by decide +kernel) (by decide +kernel)
set_option maxRecDepth 20000 in
theorem gX11_back_X3_bring : GoodIn wsX11_back (wsV RX11 335 RX3 yX3_bring wsX3_bring) := goodIn_app (goodIn_of _ (by decide +kernel)) ggX11_back_X3_bring
theorem dX11_back_0 : decode cX11_back 0 = .ok (.iload_n 1, 1) := by decide +kernel
theorem dX11_back_1 : decode cX11_back 1 = .ok (.ifCond .lt 14, 3) := by decide +kernel
theorem dX11_back_4 : decode cX11_back 4 = .ok (.iload_n 1, 1) := by decide +kernel
theorem dX11_back_5 : decode cX11_back 5 = .ok (.aload_n 0, 1) := by decide +kernel
theorem dX11_back_6 : decode cX11_back 6 = .ok (.getfield 42, 3) := by decide +kernel
theorem dX11_back_9 : decode cX11_back 9 = .ok (.getfield 112, 3) := by decide +kernel
theorem dX11_back_12 : decode cX11_back 12 = .ok (.if_icmp .lt 10, 3) := by decide +kernel
theorem dX11_back_15 : decode cX11_back 15 = .ok (.aload_n 0, 1) := by decide +kernel
theorem dX11_back_16 : decode cX11_back 16 = .ok (.iconst 1, 1) := by decide +kernel
theorem dX11_back_17 : decode cX11_back 17 = .ok (.putfield 118, 3) := by decide +kernel
theorem dX11_back_20 : decode cX11_back 20 = .ok (.iconst 0, 1) := by decide +kernel
theorem dX11_back_21 : decode cX11_back 21 = .ok (.ireturn, 1) := by decide +kernel
theorem dX11_back_22 : decode cX11_back 22 = .ok (.aload_n 0, 1) := by decide +kernel
theorem dX11_back_23 : decode cX11_back 23 = .ok (.getfield 42, 3) := by decide +kernel
theorem dX11_back_26 : decode cX11_back 26 = .ok (.iload_n 1, 1) := by decide +kernel
theorem dX11_back_27 : decode cX11_back 27 = .ok (.aload_n 0, 1) := by decide +kernel
theorem dX11_back_28 : decode cX11_back 28 = .ok (.getfield 28, 3) := by decide +kernel
theorem dX11_back_31 : decode cX11_back 31 = .ok (.invokevirtual 335, 3) := by decide +kernel
theorem dX11_back_34 : decode cX11_back 34 = .ok (.aload_n 0, 1) := by decide +kernel
theorem dX11_back_35 : decode cX11_back 35 = .ok (.getfield 35, 3) := by decide +kernel
theorem dX11_back_38 : decode cX11_back 38 = .ok (.iconst 0, 1) := by decide +kernel
theorem dX11_back_39 : decode cX11_back 39 = .ok (.putfield 109, 3) := by decide +kernel
theorem dX11_back_42 : decode cX11_back 42 = .ok (.aload_n 0, 1) := by decide +kernel
theorem dX11_back_43 : decode cX11_back 43 = .ok (.iconst 0, 1) := by decide +kernel
theorem dX11_back_44 : decode cX11_back 44 = .ok (.putfield 118, 3) := by decide +kernel
theorem dX11_back_47 : decode cX11_back 47 = .ok (.iconst 1, 1) := by decide +kernel
theorem dX11_back_48 : decode cX11_back 48 = .ok (.ireturn, 1) := by decide +kernel
set_option maxRecDepth 20000 in
theorem ggX11_change_X9_row : GoodIn wsX11_change wsX9_row := goodIn_r _ [7, 8, 9, 10, 11, 48, 49, 50] (by decide +kernel) (by decide +kernel)
set_option maxRecDepth 20000 in
theorem gX11_change_X9_row : GoodIn wsX11_change (wsV RX11 124 RX9 yX9_row wsX9_row) := goodIn_app (goodIn_of _ (by decide +kernel)) ggX11_change_X9_row
set_option maxRecDepth 20000 in
theorem ggX11_change_X9_steps : GoodIn wsX11_change wsX9_steps := goodIn_r _ [15, 16, 9, 10, 11, 48, 49, 50] (by decide +kernel) (by decide +kernel)
set_option maxRecDepth 20000 in
theorem gX11_change_X9_steps : GoodIn wsX11_change (wsV RX11 127 RX9 yX9_steps wsX9_steps) := goodIn_app (goodIn_of _ (by decide +kernel)) ggX11_change_X9_steps
set_option maxRecDepth 20000 in
theorem ggX11_change_X0_keep : GoodIn wsX11_change wsX0_keep := goodIn_r _ [21, 22, 23, 24, 25, 26, 27, 28, 20, 29, 9, 10, 11, 30, 31, 51, 52, 53, 54] (by decide +kernel) (by decide +kernel)
set_option maxRecDepth 20000 in
theorem gX11_change_X0_keep : GoodIn wsX11_change (wsV RX11 339 RX0 yX0_keep wsX0_keep) := goodIn_app (goodIn_of _ (by decide +kernel)) ggX11_change_X0_keep
set_option maxRecDepth 20000 in
theorem ggX11_change_X9_put : GoodIn wsX11_change wsX9_put := goodIn_r _ [35, 8, 16, 30, 10, 31, 48, 49, 50] (by decide +kernel) (by decide +kernel)
set_option maxRecDepth 20000 in
theorem gX11_change_X9_put : GoodIn wsX11_change (wsV RX11 341 RX9 yX9_put wsX9_put) := goodIn_app (goodIn_of _ (by decide +kernel)) ggX11_change_X9_put
theorem dX11_change_0 : decode cX11_change 0 = .ok (.aload_n 0, 1) := by decide +kernel
theorem dX11_change_1 : decode cX11_change 1 = .ok (.getfield 35, 3) := by decide +kernel
theorem dX11_change_4 : decode cX11_change 4 = .ok (.iload_n 1, 1) := by decide +kernel
theorem dX11_change_5 : decode cX11_change 5 = .ok (.aload_n 0, 1) := by decide +kernel
theorem dX11_change_6 : decode cX11_change 6 = .ok (.getfield 28, 3) := by decide +kernel
theorem dX11_change_9 : decode cX11_change 9 = .ok (.iload_n 1, 1) := by decide +kernel
theorem dX11_change_10 : decode cX11_change 10 = .ok (.invokevirtual 124, 3) := by decide +kernel
theorem dX11_change_13 : decode cX11_change 13 = .ok (.aload_n 0, 1) := by decide +kernel
theorem dX11_change_14 : decode cX11_change 14 = .ok (.getfield 28, 3) := by decide +kernel
theorem dX11_change_17 : decode cX11_change 17 = .ok (.iload_n 1, 1) := by decide +kernel
theorem dX11_change_18 : decode cX11_change 18 = .ok (.invokevirtual 127, 3) := by decide +kernel
theorem dX11_change_21 : decode cX11_change 21 = .ok (.invokevirtual 339, 3) := by decide +kernel
theorem dX11_change_24 : decode cX11_change 24 = .ok (.aload_n 0, 1) := by decide +kernel
theorem dX11_change_25 : decode cX11_change 25 = .ok (.getfield 28, 3) := by decide +kernel
theorem dX11_change_28 : decode cX11_change 28 = .ok (.iload_n 1, 1) := by decide +kernel
theorem dX11_change_29 : decode cX11_change 29 = .ok (.iload_n 2, 1) := by decide +kernel
theorem dX11_change_30 : decode cX11_change 30 = .ok (.iload_n 3, 1) := by decide +kernel
theorem dX11_change_31 : decode cX11_change 31 = .ok (.invokevirtual 341, 3) := by decide +kernel
theorem dX11_change_34 : decode cX11_change 34 = .ok (.return_, 1) := by decide +kernel
theorem dX11_size_0 : decode cX11_size 0 = .ok (.iload_n 1, 1) := by decide +kernel
theorem dX11_size_1 : decode cX11_size 1 = .ok (.tableswitch 186 0 9 #[55, 80, 105, 130, 138, 146, 154, 162, 170, 178], 55) := by decide +kernel
theorem dX11_size_56 : decode cX11_size 56 = .ok (.aload_n 0, 1) := by decide +kernel
theorem dX11_size_57 : decode cX11_size 57 = .ok (.getfield 63, 3) := by decide +kernel
theorem dX11_size_60 : decode cX11_size 60 = .ok (.getfield 172, 3) := by decide +kernel
theorem dX11_size_63 : decode cX11_size 63 = .ok (.ifCond .eq 16, 3) := by decide +kernel
theorem dX11_size_66 : decode cX11_size 66 = .ok (.aload_n 0, 1) := by decide +kernel
theorem dX11_size_67 : decode cX11_size 67 = .ok (.getfield 63, 3) := by decide +kernel
theorem dX11_size_70 : decode cX11_size 70 = .ok (.getfield 351, 3) := by decide +kernel
theorem dX11_size_73 : decode cX11_size 73 = .ok (.bipush 100, 2) := by decide +kernel
theorem dX11_size_75 : decode cX11_size 75 = .ok (.iadd, 1) := by decide +kernel
theorem dX11_size_76 : decode cX11_size 76 = .ok (.goto 4, 3) := by decide +kernel
theorem dX11_size_79 : decode cX11_size 79 = .ok (.iconst 0, 1) := by decide +kernel
theorem dX11_size_80 : decode cX11_size 80 = .ok (.ireturn, 1) := by decide +kernel
theorem dX11_size_81 : decode cX11_size 81 = .ok (.aload_n 0, 1) := by decide +kernel
theorem dX11_size_82 : decode cX11_size 82 = .ok (.getfield 63, 3) := by decide +kernel
theorem dX11_size_85 : decode cX11_size 85 = .ok (.getfield 172, 3) := by decide +kernel
theorem dX11_size_88 : decode cX11_size 88 = .ok (.ifCond .eq 16, 3) := by decide +kernel
theorem dX11_size_91 : decode cX11_size 91 = .ok (.aload_n 0, 1) := by decide +kernel
theorem dX11_size_92 : decode cX11_size 92 = .ok (.getfield 63, 3) := by decide +kernel
theorem dX11_size_95 : decode cX11_size 95 = .ok (.getfield 354, 3) := by decide +kernel
theorem dX11_size_98 : decode cX11_size 98 = .ok (.bipush 100, 2) := by decide +kernel
theorem dX11_size_100 : decode cX11_size 100 = .ok (.iadd, 1) := by decide +kernel
theorem dX11_size_101 : decode cX11_size 101 = .ok (.goto 4, 3) := by decide +kernel
theorem dX11_size_104 : decode cX11_size 104 = .ok (.iconst 0, 1) := by decide +kernel
theorem dX11_size_105 : decode cX11_size 105 = .ok (.ireturn, 1) := by decide +kernel
theorem dX11_size_106 : decode cX11_size 106 = .ok (.aload_n 0, 1) := by decide +kernel
theorem dX11_size_107 : decode cX11_size 107 = .ok (.getfield 63, 3) := by decide +kernel
theorem dX11_size_110 : decode cX11_size 110 = .ok (.getfield 172, 3) := by decide +kernel
theorem dX11_size_113 : decode cX11_size 113 = .ok (.ifCond .eq 16, 3) := by decide +kernel
theorem dX11_size_116 : decode cX11_size 116 = .ok (.aload_n 0, 1) := by decide +kernel
theorem dX11_size_117 : decode cX11_size 117 = .ok (.getfield 63, 3) := by decide +kernel
theorem dX11_size_120 : decode cX11_size 120 = .ok (.getfield 357, 3) := by decide +kernel
theorem dX11_size_123 : decode cX11_size 123 = .ok (.bipush 100, 2) := by decide +kernel
theorem dX11_size_125 : decode cX11_size 125 = .ok (.iadd, 1) := by decide +kernel
theorem dX11_size_126 : decode cX11_size 126 = .ok (.goto 4, 3) := by decide +kernel
theorem dX11_size_129 : decode cX11_size 129 = .ok (.iconst 0, 1) := by decide +kernel
theorem dX11_size_130 : decode cX11_size 130 = .ok (.ireturn, 1) := by decide +kernel
theorem dX11_size_131 : decode cX11_size 131 = .ok (.aload_n 0, 1) := by decide +kernel
theorem dX11_size_132 : decode cX11_size 132 = .ok (.getfield 63, 3) := by decide +kernel
theorem dX11_size_135 : decode cX11_size 135 = .ok (.getfield 283, 3) := by decide +kernel
theorem dX11_size_138 : decode cX11_size 138 = .ok (.ireturn, 1) := by decide +kernel
theorem dX11_size_139 : decode cX11_size 139 = .ok (.aload_n 0, 1) := by decide +kernel
theorem dX11_size_140 : decode cX11_size 140 = .ok (.getfield 28, 3) := by decide +kernel
theorem dX11_size_143 : decode cX11_size 143 = .ok (.getfield 113, 3) := by decide +kernel
theorem dX11_size_146 : decode cX11_size 146 = .ok (.ireturn, 1) := by decide +kernel
theorem dX11_size_147 : decode cX11_size 147 = .ok (.aload_n 0, 1) := by decide +kernel
theorem dX11_size_148 : decode cX11_size 148 = .ok (.getfield 63, 3) := by decide +kernel
theorem dX11_size_151 : decode cX11_size 151 = .ok (.getfield 267, 3) := by decide +kernel
theorem dX11_size_154 : decode cX11_size 154 = .ok (.ireturn, 1) := by decide +kernel
theorem dX11_size_155 : decode cX11_size 155 = .ok (.aload_n 0, 1) := by decide +kernel
theorem dX11_size_156 : decode cX11_size 156 = .ok (.getfield 63, 3) := by decide +kernel
theorem dX11_size_159 : decode cX11_size 159 = .ok (.getfield 276, 3) := by decide +kernel
theorem dX11_size_162 : decode cX11_size 162 = .ok (.ireturn, 1) := by decide +kernel
theorem dX11_size_163 : decode cX11_size 163 = .ok (.aload_n 0, 1) := by decide +kernel
theorem dX11_size_164 : decode cX11_size 164 = .ok (.getfield 35, 3) := by decide +kernel
theorem dX11_size_167 : decode cX11_size 167 = .ok (.getfield 109, 3) := by decide +kernel
theorem dX11_size_170 : decode cX11_size 170 = .ok (.ireturn, 1) := by decide +kernel
theorem dX11_size_171 : decode cX11_size 171 = .ok (.aload_n 0, 1) := by decide +kernel
theorem dX11_size_172 : decode cX11_size 172 = .ok (.getfield 42, 3) := by decide +kernel
theorem dX11_size_175 : decode cX11_size 175 = .ok (.getfield 112, 3) := by decide +kernel
theorem dX11_size_178 : decode cX11_size 178 = .ok (.ireturn, 1) := by decide +kernel
theorem dX11_size_179 : decode cX11_size 179 = .ok (.aload_n 0, 1) := by decide +kernel
theorem dX11_size_180 : decode cX11_size 180 = .ok (.getfield 10, 3) := by decide +kernel
theorem dX11_size_183 : decode cX11_size 183 = .ok (.getfield 78, 3) := by decide +kernel
theorem dX11_size_186 : decode cX11_size 186 = .ok (.ireturn, 1) := by decide +kernel
theorem dX11_size_187 : decode cX11_size 187 = .ok (.iconst (-1), 1) := by decide +kernel
theorem dX11_size_188 : decode cX11_size 188 = .ok (.ireturn, 1) := by decide +kernel
theorem dX11_trouble_0 : decode cX11_trouble 0 = .ok (.aload_n 0, 1) := by decide +kernel
theorem dX11_trouble_1 : decode cX11_trouble 1 = .ok (.getfield 118, 3) := by decide +kernel
theorem dX11_trouble_4 : decode cX11_trouble 4 = .ok (.ireturn, 1) := by decide +kernel
theorem dX11_lacks_0 : decode cX11_lacks 0 = .ok (.iload_n 1, 1) := by decide +kernel
theorem dX11_lacks_1 : decode cX11_lacks 1 = .ok (.ifCond .lt 14, 3) := by decide +kernel
theorem dX11_lacks_4 : decode cX11_lacks 4 = .ok (.iload_n 1, 1) := by decide +kernel
theorem dX11_lacks_5 : decode cX11_lacks 5 = .ok (.aload_n 0, 1) := by decide +kernel
theorem dX11_lacks_6 : decode cX11_lacks 6 = .ok (.getfield 28, 3) := by decide +kernel
theorem dX11_lacks_9 : decode cX11_lacks 9 = .ok (.getfield 113, 3) := by decide +kernel
theorem dX11_lacks_12 : decode cX11_lacks 12 = .ok (.if_icmp .lt 7, 3) := by decide +kernel
theorem dX11_lacks_15 : decode cX11_lacks 15 = .ok (.iconst 1, 1) := by decide +kernel
theorem dX11_lacks_16 : decode cX11_lacks 16 = .ok (.goto 4, 3) := by decide +kernel
theorem dX11_lacks_19 : decode cX11_lacks 19 = .ok (.iconst 0, 1) := by decide +kernel
theorem dX11_lacks_20 : decode cX11_lacks 20 = .ok (.ireturn, 1) := by decide +kernel
theorem dX11_refused_0 : decode cX11_refused 0 = .ok (.aload_n 0, 1) := by decide +kernel
theorem dX11_refused_1 : decode cX11_refused 1 = .ok (.iload_n 1, 1) := by decide +kernel
theorem dX11_refused_2 : decode cX11_refused 2 = .ok (.putfield 118, 3) := by decide +kernel
theorem dX11_refused_5 : decode cX11_refused 5 = .ok (.iload_n 2, 1) := by decide +kernel
theorem dX11_refused_6 : decode cX11_refused 6 = .ok (.ireturn, 1) := by decide +kernel
theorem dX11_granted_0 : decode cX11_granted 0 = .ok (.aload_n 0, 1) := by decide +kernel
theorem dX11_granted_1 : decode cX11_granted 1 = .ok (.iconst 0, 1) := by decide +kernel
theorem dX11_granted_2 : decode cX11_granted 2 = .ok (.putfield 118, 3) := by decide +kernel
theorem dX11_granted_5 : decode cX11_granted 5 = .ok (.iload_n 1, 1) := by decide +kernel
theorem dX11_granted_6 : decode cX11_granted 6 = .ok (.ireturn, 1) := by decide +kernel
set_option maxRecDepth 20000 in
theorem ggX11_grantedPart_X11_commonMeasure : GoodIn wsX11_grantedPart wsX11_commonMeasure := goodIn_r _ [9] (by decide +kernel) (by decide +kernel)
set_option maxRecDepth 20000 in
theorem gX11_grantedPart_X11_commonMeasure : GoodIn wsX11_grantedPart (va_wsS RX11 366 yX11_commonMeasure wsX11_commonMeasure) := goodIn_app (goodIn_of _ (by decide +kernel)) ggX11_grantedPart_X11_commonMeasure
theorem dX11_grantedPart_0 : decode cX11_grantedPart 0 = .ok (.aload_n 0, 1) := by decide +kernel
theorem dX11_grantedPart_1 : decode cX11_grantedPart 1 = .ok (.iconst 0, 1) := by decide +kernel
theorem dX11_grantedPart_2 : decode cX11_grantedPart 2 = .ok (.putfield 118, 3) := by decide +kernel
theorem dX11_grantedPart_5 : decode cX11_grantedPart 5 = .ok (.lload_n 1, 1) := by decide +kernel
theorem dX11_grantedPart_6 : decode cX11_grantedPart 6 = .ok (.invokestatic 360, 3) := by decide +kernel
theorem dX11_grantedPart_9 : decode cX11_grantedPart 9 = .ok (.lload_n 3, 1) := by decide +kernel
theorem dX11_grantedPart_10 : decode cX11_grantedPart 10 = .ok (.invokestatic 366, 3) := by decide +kernel
theorem dX11_grantedPart_13 : decode cX11_grantedPart 13 = .ok (.lstore 6, 2) := by decide +kernel
theorem dX11_grantedPart_15 : decode cX11_grantedPart 15 = .ok (.lload 6, 2) := by decide +kernel
theorem dX11_grantedPart_17 : decode cX11_grantedPart 17 = .ok (.lconst 0, 1) := by decide +kernel
theorem dX11_grantedPart_18 : decode cX11_grantedPart 18 = .ok (.lcmp, 1) := by decide +kernel
theorem dX11_grantedPart_19 : decode cX11_grantedPart 19 = .ok (.ifCond .gt 5, 3) := by decide +kernel
theorem dX11_grantedPart_22 : decode cX11_grantedPart 22 = .ok (.lconst 0, 1) := by decide +kernel
theorem dX11_grantedPart_23 : decode cX11_grantedPart 23 = .ok (.lreturn, 1) := by decide +kernel
theorem dX11_grantedPart_24 : decode cX11_grantedPart 24 = .ok (.iload 5, 2) := by decide +kernel
theorem dX11_grantedPart_26 : decode cX11_grantedPart 26 = .ok (.ifCond .eq 10, 3) := by decide +kernel
theorem dX11_grantedPart_29 : decode cX11_grantedPart 29 = .ok (.lload_n 3, 1) := by decide +kernel
theorem dX11_grantedPart_30 : decode cX11_grantedPart 30 = .ok (.lload 6, 2) := by decide +kernel
theorem dX11_grantedPart_32 : decode cX11_grantedPart 32 = .ok (.ldiv, 1) := by decide +kernel
theorem dX11_grantedPart_33 : decode cX11_grantedPart 33 = .ok (.goto 7, 3) := by decide +kernel
theorem dX11_grantedPart_36 : decode cX11_grantedPart 36 = .ok (.lload_n 1, 1) := by decide +kernel
theorem dX11_grantedPart_37 : decode cX11_grantedPart 37 = .ok (.lload 6, 2) := by decide +kernel
theorem dX11_grantedPart_39 : decode cX11_grantedPart 39 = .ok (.ldiv, 1) := by decide +kernel
theorem dX11_grantedPart_40 : decode cX11_grantedPart 40 = .ok (.lreturn, 1) := by decide +kernel
theorem dX11_commonMeasure_0 : decode cX11_commonMeasure 0 = .ok (.lload_n 0, 1) := by decide +kernel
theorem dX11_commonMeasure_1 : decode cX11_commonMeasure 1 = .ok (.lstore 4, 2) := by decide +kernel
theorem dX11_commonMeasure_3 : decode cX11_commonMeasure 3 = .ok (.lload_n 2, 1) := by decide +kernel
theorem dX11_commonMeasure_4 : decode cX11_commonMeasure 4 = .ok (.lstore 6, 2) := by decide +kernel
theorem dX11_commonMeasure_6 : decode cX11_commonMeasure 6 = .ok (.iconst 0, 1) := by decide +kernel
theorem dX11_commonMeasure_7 : decode cX11_commonMeasure 7 = .ok (.istore 8, 2) := by decide +kernel
theorem dX11_commonMeasure_9 : decode cX11_commonMeasure 9 = .ok (.iload 8, 2) := by decide +kernel
theorem dX11_commonMeasure_11 : decode cX11_commonMeasure 11 = .ok (.sipush 200, 3) := by decide +kernel
theorem dX11_commonMeasure_14 : decode cX11_commonMeasure 14 = .ok (.if_icmp .ge 31, 3) := by decide +kernel
theorem dX11_commonMeasure_17 : decode cX11_commonMeasure 17 = .ok (.lload 6, 2) := by decide +kernel
theorem dX11_commonMeasure_19 : decode cX11_commonMeasure 19 = .ok (.lconst 0, 1) := by decide +kernel
theorem dX11_commonMeasure_20 : decode cX11_commonMeasure 20 = .ok (.lcmp, 1) := by decide +kernel
theorem dX11_commonMeasure_21 : decode cX11_commonMeasure 21 = .ok (.ifCond .eq 24, 3) := by decide +kernel
theorem dX11_commonMeasure_24 : decode cX11_commonMeasure 24 = .ok (.lload 4, 2) := by decide +kernel
theorem dX11_commonMeasure_26 : decode cX11_commonMeasure 26 = .ok (.lload 6, 2) := by decide +kernel
theorem dX11_commonMeasure_28 : decode cX11_commonMeasure 28 = .ok (.lrem, 1) := by decide +kernel
theorem dX11_commonMeasure_29 : decode cX11_commonMeasure 29 = .ok (.lstore 9, 2) := by decide +kernel
theorem dX11_commonMeasure_31 : decode cX11_commonMeasure 31 = .ok (.lload 6, 2) := by decide +kernel
theorem dX11_commonMeasure_33 : decode cX11_commonMeasure 33 = .ok (.lstore 4, 2) := by decide +kernel
theorem dX11_commonMeasure_35 : decode cX11_commonMeasure 35 = .ok (.lload 9, 2) := by decide +kernel
theorem dX11_commonMeasure_37 : decode cX11_commonMeasure 37 = .ok (.lstore 6, 2) := by decide +kernel
theorem dX11_commonMeasure_39 : decode cX11_commonMeasure 39 = .ok (.iinc 8 1, 3) := by decide +kernel
theorem dX11_commonMeasure_42 : decode cX11_commonMeasure 42 = .ok (.goto (-33), 3) := by decide +kernel
theorem dX11_commonMeasure_45 : decode cX11_commonMeasure 45 = .ok (.lload 4, 2) := by decide +kernel
theorem dX11_commonMeasure_47 : decode cX11_commonMeasure 47 = .ok (.lreturn, 1) := by decide +kernel
theorem dX11_at_0 : decode cX11_at 0 = .ok (.iload_n 1, 1) := by decide +kernel
theorem dX11_at_1 : decode cX11_at 1 = .ok (.ifCond .lt 15, 3) := by decide +kernel
theorem dX11_at_4 : decode cX11_at 4 = .ok (.iload_n 1, 1) := by decide +kernel
theorem dX11_at_5 : decode cX11_at 5 = .ok (.aload_n 0, 1) := by decide +kernel
theorem dX11_at_6 : decode cX11_at 6 = .ok (.arraylength, 1) := by decide +kernel
theorem dX11_at_7 : decode cX11_at 7 = .ok (.if_icmp .ge 9, 3) := by decide +kernel
theorem dX11_at_10 : decode cX11_at 10 = .ok (.aload_n 0, 1) := by decide +kernel
theorem dX11_at_11 : decode cX11_at 11 = .ok (.iload_n 1, 1) := by decide +kernel
theorem dX11_at_12 : decode cX11_at 12 = .ok (.iaload, 1) := by decide +kernel
theorem dX11_at_13 : decode cX11_at 13 = .ok (.goto 4, 3) := by decide +kernel
theorem dX11_at_16 : decode cX11_at 16 = .ok (.iconst 0, 1) := by decide +kernel
theorem dX11_at_17 : decode cX11_at 17 = .ok (.ireturn, 1) := by decide +kernel
theorem dX11_set_0 : decode cX11_set 0 = .ok (.iload_n 1, 1) := by decide +kernel
theorem dX11_set_1 : decode cX11_set 1 = .ok (.ifCond .lt 13, 3) := by decide +kernel
theorem dX11_set_4 : decode cX11_set 4 = .ok (.iload_n 1, 1) := by decide +kernel
theorem dX11_set_5 : decode cX11_set 5 = .ok (.aload_n 0, 1) := by decide +kernel
theorem dX11_set_6 : decode cX11_set 6 = .ok (.arraylength, 1) := by decide +kernel
theorem dX11_set_7 : decode cX11_set 7 = .ok (.if_icmp .ge 7, 3) := by decide +kernel
theorem dX11_set_10 : decode cX11_set 10 = .ok (.aload_n 0, 1) := by decide +kernel
theorem dX11_set_11 : decode cX11_set 11 = .ok (.iload_n 1, 1) := by decide +kernel
theorem dX11_set_12 : decode cX11_set 12 = .ok (.iload_n 2, 1) := by decide +kernel
theorem dX11_set_13 : decode cX11_set 13 = .ok (.iastore, 1) := by decide +kernel
theorem dX11_set_14 : decode cX11_set 14 = .ok (.return_, 1) := by decide +kernel
theorem dJ6_bitCount_0f7a4_0 : decode cJ6_bitCount_0f7a4 0 = .ok (.iload_n 0, 1) := by decide +kernel
theorem dJ6_bitCount_0f7a4_1 : decode cJ6_bitCount_0f7a4 1 = .ok (.iload_n 0, 1) := by decide +kernel
theorem dJ6_bitCount_0f7a4_2 : decode cJ6_bitCount_0f7a4 2 = .ok (.iconst 1, 1) := by decide +kernel
theorem dJ6_bitCount_0f7a4_3 : decode cJ6_bitCount_0f7a4 3 = .ok (.iushr, 1) := by decide +kernel
theorem dJ6_bitCount_0f7a4_4 : decode cJ6_bitCount_0f7a4 4 = .ok (.ldc_w 265, 3) := by decide +kernel
theorem dJ6_bitCount_0f7a4_7 : decode cJ6_bitCount_0f7a4 7 = .ok (.iand, 1) := by decide +kernel
theorem dJ6_bitCount_0f7a4_8 : decode cJ6_bitCount_0f7a4 8 = .ok (.isub, 1) := by decide +kernel
theorem dJ6_bitCount_0f7a4_9 : decode cJ6_bitCount_0f7a4 9 = .ok (.istore_n 0, 1) := by decide +kernel
theorem dJ6_bitCount_0f7a4_10 : decode cJ6_bitCount_0f7a4 10 = .ok (.iload_n 0, 1) := by decide +kernel
theorem dJ6_bitCount_0f7a4_11 : decode cJ6_bitCount_0f7a4 11 = .ok (.ldc_w 266, 3) := by decide +kernel
theorem dJ6_bitCount_0f7a4_14 : decode cJ6_bitCount_0f7a4 14 = .ok (.iand, 1) := by decide +kernel
theorem dJ6_bitCount_0f7a4_15 : decode cJ6_bitCount_0f7a4 15 = .ok (.iload_n 0, 1) := by decide +kernel
theorem dJ6_bitCount_0f7a4_16 : decode cJ6_bitCount_0f7a4 16 = .ok (.iconst 2, 1) := by decide +kernel
theorem dJ6_bitCount_0f7a4_17 : decode cJ6_bitCount_0f7a4 17 = .ok (.iushr, 1) := by decide +kernel
theorem dJ6_bitCount_0f7a4_18 : decode cJ6_bitCount_0f7a4 18 = .ok (.ldc_w 266, 3) := by decide +kernel
theorem dJ6_bitCount_0f7a4_21 : decode cJ6_bitCount_0f7a4 21 = .ok (.iand, 1) := by decide +kernel
theorem dJ6_bitCount_0f7a4_22 : decode cJ6_bitCount_0f7a4 22 = .ok (.iadd, 1) := by decide +kernel
theorem dJ6_bitCount_0f7a4_23 : decode cJ6_bitCount_0f7a4 23 = .ok (.istore_n 0, 1) := by decide +kernel
theorem dJ6_bitCount_0f7a4_24 : decode cJ6_bitCount_0f7a4 24 = .ok (.iload_n 0, 1) := by decide +kernel
theorem dJ6_bitCount_0f7a4_25 : decode cJ6_bitCount_0f7a4 25 = .ok (.iload_n 0, 1) := by decide +kernel
theorem dJ6_bitCount_0f7a4_26 : decode cJ6_bitCount_0f7a4 26 = .ok (.iconst 4, 1) := by decide +kernel
theorem dJ6_bitCount_0f7a4_27 : decode cJ6_bitCount_0f7a4 27 = .ok (.iushr, 1) := by decide +kernel
theorem dJ6_bitCount_0f7a4_28 : decode cJ6_bitCount_0f7a4 28 = .ok (.iadd, 1) := by decide +kernel
theorem dJ6_bitCount_0f7a4_29 : decode cJ6_bitCount_0f7a4 29 = .ok (.ldc_w 267, 3) := by decide +kernel
theorem dJ6_bitCount_0f7a4_32 : decode cJ6_bitCount_0f7a4 32 = .ok (.iand, 1) := by decide +kernel
theorem dJ6_bitCount_0f7a4_33 : decode cJ6_bitCount_0f7a4 33 = .ok (.istore_n 0, 1) := by decide +kernel
theorem dJ6_bitCount_0f7a4_34 : decode cJ6_bitCount_0f7a4 34 = .ok (.iload_n 0, 1) := by decide +kernel
theorem dJ6_bitCount_0f7a4_35 : decode cJ6_bitCount_0f7a4 35 = .ok (.iload_n 0, 1) := by decide +kernel
theorem dJ6_bitCount_0f7a4_36 : decode cJ6_bitCount_0f7a4 36 = .ok (.bipush 8, 2) := by decide +kernel
theorem dJ6_bitCount_0f7a4_38 : decode cJ6_bitCount_0f7a4 38 = .ok (.iushr, 1) := by decide +kernel
theorem dJ6_bitCount_0f7a4_39 : decode cJ6_bitCount_0f7a4 39 = .ok (.iadd, 1) := by decide +kernel
theorem dJ6_bitCount_0f7a4_40 : decode cJ6_bitCount_0f7a4 40 = .ok (.istore_n 0, 1) := by decide +kernel
theorem dJ6_bitCount_0f7a4_41 : decode cJ6_bitCount_0f7a4 41 = .ok (.iload_n 0, 1) := by decide +kernel
theorem dJ6_bitCount_0f7a4_42 : decode cJ6_bitCount_0f7a4 42 = .ok (.iload_n 0, 1) := by decide +kernel
theorem dJ6_bitCount_0f7a4_43 : decode cJ6_bitCount_0f7a4 43 = .ok (.bipush 16, 2) := by decide +kernel
theorem dJ6_bitCount_0f7a4_45 : decode cJ6_bitCount_0f7a4 45 = .ok (.iushr, 1) := by decide +kernel
theorem dJ6_bitCount_0f7a4_46 : decode cJ6_bitCount_0f7a4 46 = .ok (.iadd, 1) := by decide +kernel
theorem dJ6_bitCount_0f7a4_47 : decode cJ6_bitCount_0f7a4 47 = .ok (.istore_n 0, 1) := by decide +kernel
theorem dJ6_bitCount_0f7a4_48 : decode cJ6_bitCount_0f7a4 48 = .ok (.iload_n 0, 1) := by decide +kernel
theorem dJ6_bitCount_0f7a4_49 : decode cJ6_bitCount_0f7a4 49 = .ok (.bipush 63, 2) := by decide +kernel
theorem dJ6_bitCount_0f7a4_51 : decode cJ6_bitCount_0f7a4 51 = .ok (.iand, 1) := by decide +kernel
theorem dJ6_bitCount_0f7a4_52 : decode cJ6_bitCount_0f7a4 52 = .ok (.ireturn, 1) := by decide +kernel
theorem dJ9_abs_067f4_0 : decode cJ9_abs_067f4 0 = .ok (.lload_n 0, 1) := by decide +kernel
theorem dJ9_abs_067f4_1 : decode cJ9_abs_067f4 1 = .ok (.lconst 0, 1) := by decide +kernel
theorem dJ9_abs_067f4_2 : decode cJ9_abs_067f4 2 = .ok (.lcmp, 1) := by decide +kernel
theorem dJ9_abs_067f4_3 : decode cJ9_abs_067f4 3 = .ok (.ifCond .ge 8, 3) := by decide +kernel
theorem dJ9_abs_067f4_6 : decode cJ9_abs_067f4 6 = .ok (.lload_n 0, 1) := by decide +kernel
theorem dJ9_abs_067f4_7 : decode cJ9_abs_067f4 7 = .ok (.lneg, 1) := by decide +kernel
theorem dJ9_abs_067f4_8 : decode cJ9_abs_067f4 8 = .ok (.goto 4, 3) := by decide +kernel
theorem dJ9_abs_067f4_11 : decode cJ9_abs_067f4 11 = .ok (.lload_n 0, 1) := by decide +kernel
theorem dJ9_abs_067f4_12 : decode cJ9_abs_067f4 12 = .ok (.lreturn, 1) := by decide +kernel
theorem dJ9_max_7cf53_0 : decode cJ9_max_7cf53 0 = .ok (.iload_n 0, 1) := by decide +kernel
theorem dJ9_max_7cf53_1 : decode cJ9_max_7cf53 1 = .ok (.iload_n 1, 1) := by decide +kernel
theorem dJ9_max_7cf53_2 : decode cJ9_max_7cf53 2 = .ok (.if_icmp .lt 7, 3) := by decide +kernel
theorem dJ9_max_7cf53_5 : decode cJ9_max_7cf53 5 = .ok (.iload_n 0, 1) := by decide +kernel
theorem dJ9_max_7cf53_6 : decode cJ9_max_7cf53 6 = .ok (.goto 4, 3) := by decide +kernel
theorem dJ9_max_7cf53_9 : decode cJ9_max_7cf53 9 = .ok (.iload_n 1, 1) := by decide +kernel
theorem dJ9_max_7cf53_10 : decode cJ9_max_7cf53 10 = .ok (.ireturn, 1) := by decide +kernel
theorem dJ9_min_7cf53_0 : decode cJ9_min_7cf53 0 = .ok (.iload_n 0, 1) := by decide +kernel
theorem dJ9_min_7cf53_1 : decode cJ9_min_7cf53 1 = .ok (.iload_n 1, 1) := by decide +kernel
theorem dJ9_min_7cf53_2 : decode cJ9_min_7cf53 2 = .ok (.if_icmp .gt 7, 3) := by decide +kernel
theorem dJ9_min_7cf53_5 : decode cJ9_min_7cf53 5 = .ok (.iload_n 0, 1) := by decide +kernel
theorem dJ9_min_7cf53_6 : decode cJ9_min_7cf53 6 = .ok (.goto 4, 3) := by decide +kernel
theorem dJ9_min_7cf53_9 : decode cJ9_min_7cf53 9 = .ok (.iload_n 1, 1) := by decide +kernel
theorem dJ9_min_7cf53_10 : decode cJ9_min_7cf53 10 = .ok (.ireturn, 1) := by decide +kernel
set_option maxRecDepth 20000 in
theorem ggJ0_length_8abf5_J0_coder_7d493 : GoodIn wsJ0_length_8abf5 wsJ0_coder_7d493 := goodIn_r _ [6, 7, 8] (by decide +kernel) (by decide +kernel)
set_option maxRecDepth 20000 in
theorem gJ0_length_8abf5_J0_coder_7d493 : GoodIn wsJ0_length_8abf5 (wsV RJ0 335 RJ0 yJ0_coder_7d493 wsJ0_coder_7d493) := goodIn_app (goodIn_of _ (by decide +kernel)) ggJ0_length_8abf5_J0_coder_7d493
theorem dJ0_length_8abf5_0 : decode cJ0_length_8abf5 0 = .ok (.aload_n 0, 1) := by decide +kernel
theorem dJ0_length_8abf5_1 : decode cJ0_length_8abf5 1 = .ok (.getfield 9, 3) := by decide +kernel
theorem dJ0_length_8abf5_4 : decode cJ0_length_8abf5 4 = .ok (.arraylength, 1) := by decide +kernel
theorem dJ0_length_8abf5_5 : decode cJ0_length_8abf5 5 = .ok (.aload_n 0, 1) := by decide +kernel
theorem dJ0_length_8abf5_6 : decode cJ0_length_8abf5 6 = .ok (.invokevirtual 335, 3) := by decide +kernel
theorem dJ0_length_8abf5_9 : decode cJ0_length_8abf5 9 = .ok (.ishr, 1) := by decide +kernel
theorem dJ0_length_8abf5_10 : decode cJ0_length_8abf5 10 = .ok (.ireturn, 1) := by decide +kernel
set_option maxRecDepth 20000 in
theorem ggJ0_charAt_5068e_J0_isLatin1_aae02 : GoodIn wsJ0_charAt_5068e wsJ0_isLatin1_aae02 := goodIn_r _ [6, 7, 8] (by decide +kernel) (by decide +kernel)
set_option maxRecDepth 20000 in
theorem gJ0_charAt_5068e_J0_isLatin1_aae02 : GoodIn wsJ0_charAt_5068e (wsV RJ0 492 RJ0 yJ0_isLatin1_aae02 wsJ0_isLatin1_aae02) := goodIn_app (goodIn_of _ (by decide +kernel)) ggJ0_charAt_5068e_J0_isLatin1_aae02
set_option maxRecDepth 20000 in
theorem ggJ0_charAt_5068e_J1_charAt_3b067 : GoodIn wsJ0_charAt_5068e wsJ1_charAt_3b067 := goodIn_r _ [12, 13, 14, 5, 15, 16, 17, 18, 19, 20] (by decide +kernel) (by decide +kernel)
set_option maxRecDepth 20000 in
theorem gJ0_charAt_5068e_J1_charAt_3b067 : GoodIn wsJ0_charAt_5068e (va_wsS RJ0 495 yJ1_charAt_3b067 wsJ1_charAt_3b067) := goodIn_app (goodIn_of _ (by decide +kernel)) ggJ0_charAt_5068e_J1_charAt_3b067
set_option maxRecDepth 20000 in
theorem ggJ0_charAt_5068e_J2_charAt_3b067 : GoodIn wsJ0_charAt_5068e wsJ2_charAt_3b067 := goodIn_r _ [24, 25, 26, 23, 27, 28, 29, 30, 31, 14, 5, 15, 16, 17, 18, 19, 20, 32, 33, 34, 35, 36, 37] (by decide +kernel) (by decide +kernel)
set_option maxRecDepth 20000 in
theorem gJ0_charAt_5068e_J2_charAt_3b067 : GoodIn wsJ0_charAt_5068e (va_wsS RJ0 498 yJ2_charAt_3b067 wsJ2_charAt_3b067) := goodIn_app (goodIn_of _ (by decide +kernel)) ggJ0_charAt_5068e_J2_charAt_3b067
theorem dJ0_charAt_5068e_0 : decode cJ0_charAt_5068e 0 = .ok (.aload_n 0, 1) := by decide +kernel
theorem dJ0_charAt_5068e_1 : decode cJ0_charAt_5068e 1 = .ok (.invokevirtual 492, 3) := by decide +kernel
theorem dJ0_charAt_5068e_4 : decode cJ0_charAt_5068e 4 = .ok (.ifCond .eq 12, 3) := by decide +kernel
theorem dJ0_charAt_5068e_7 : decode cJ0_charAt_5068e 7 = .ok (.aload_n 0, 1) := by decide +kernel
theorem dJ0_charAt_5068e_8 : decode cJ0_charAt_5068e 8 = .ok (.getfield 9, 3) := by decide +kernel
theorem dJ0_charAt_5068e_11 : decode cJ0_charAt_5068e 11 = .ok (.iload_n 1, 1) := by decide +kernel
theorem dJ0_charAt_5068e_12 : decode cJ0_charAt_5068e 12 = .ok (.invokestatic 495, 3) := by decide +kernel
theorem dJ0_charAt_5068e_15 : decode cJ0_charAt_5068e 15 = .ok (.ireturn, 1) := by decide +kernel
theorem dJ0_charAt_5068e_16 : decode cJ0_charAt_5068e 16 = .ok (.aload_n 0, 1) := by decide +kernel
theorem dJ0_charAt_5068e_17 : decode cJ0_charAt_5068e 17 = .ok (.getfield 9, 3) := by decide +kernel
theorem dJ0_charAt_5068e_20 : decode cJ0_charAt_5068e 20 = .ok (.iload_n 1, 1) := by decide +kernel
theorem dJ0_charAt_5068e_21 : decode cJ0_charAt_5068e 21 = .ok (.invokestatic 498, 3) := by decide +kernel
theorem dJ0_charAt_5068e_24 : decode cJ0_charAt_5068e 24 = .ok (.ireturn, 1) := by decide +kernel
theorem dJ0_coder_7d493_0 : decode cJ0_coder_7d493 0 = .ok (.getstatic 38, 3) := by decide +kernel
theorem dJ0_coder_7d493_3 : decode cJ0_coder_7d493 3 = .ok (.ifCond .eq 10, 3) := by decide +kernel
theorem dJ0_coder_7d493_6 : decode cJ0_coder_7d493 6 = .ok (.aload_n 0, 1) := by decide +kernel
theorem dJ0_coder_7d493_7 : decode cJ0_coder_7d493 7 = .ok (.getfield 15, 3) := by decide +kernel
theorem dJ0_coder_7d493_10 : decode cJ0_coder_7d493 10 = .ok (.goto 4, 3) := by decide +kernel
theorem dJ0_coder_7d493_13 : decode cJ0_coder_7d493 13 = .ok (.iconst 1, 1) := by decide +kernel
theorem dJ0_coder_7d493_14 : decode cJ0_coder_7d493 14 = .ok (.ireturn, 1) := by decide +kernel
theorem dJ0_isLatin1_aae02_0 : decode cJ0_isLatin1_aae02 0 = .ok (.getstatic 38, 3) := by decide +kernel
theorem dJ0_isLatin1_aae02_3 : decode cJ0_isLatin1_aae02 3 = .ok (.ifCond .eq 14, 3) := by decide +kernel
theorem dJ0_isLatin1_aae02_6 : decode cJ0_isLatin1_aae02 6 = .ok (.aload_n 0, 1) := by decide +kernel
theorem dJ0_isLatin1_aae02_7 : decode cJ0_isLatin1_aae02 7 = .ok (.getfield 15, 3) := by decide +kernel
theorem dJ0_isLatin1_aae02_10 : decode cJ0_isLatin1_aae02 10 = .ok (.ifCond .ne 7, 3) := by decide +kernel
theorem dJ0_isLatin1_aae02_13 : decode cJ0_isLatin1_aae02 13 = .ok (.iconst 1, 1) := by decide +kernel
theorem dJ0_isLatin1_aae02_14 : decode cJ0_isLatin1_aae02 14 = .ok (.goto 4, 3) := by decide +kernel
theorem dJ0_isLatin1_aae02_17 : decode cJ0_isLatin1_aae02 17 = .ok (.iconst 0, 1) := by decide +kernel
theorem dJ0_isLatin1_aae02_18 : decode cJ0_isLatin1_aae02 18 = .ok (.ireturn, 1) := by decide +kernel
set_option maxRecDepth 20000 in
theorem ggJ0_checkIndex_df160_J3_checkIndex_8e157 : GoodIn wsJ0_checkIndex_df160 wsJ3_checkIndex_8e157 := goodIn_r _ [5] (by decide +kernel) (by decide +kernel)
set_option maxRecDepth 20000 in
theorem gJ0_checkIndex_df160_J3_checkIndex_8e157 : GoodIn wsJ0_checkIndex_df160 (va_wsS RJ0 1059 yJ3_checkIndex_8e157 wsJ3_checkIndex_8e157) := goodIn_app (goodIn_of _ (by decide +kernel)) ggJ0_checkIndex_df160_J3_checkIndex_8e157
theorem dJ0_checkIndex_df160_0 : decode cJ0_checkIndex_df160 0 = .ok (.iload_n 0, 1) := by decide +kernel
theorem dJ0_checkIndex_df160_1 : decode cJ0_checkIndex_df160 1 = .ok (.iload_n 1, 1) := by decide +kernel
theorem dJ0_checkIndex_df160_2 : decode cJ0_checkIndex_df160 2 = .ok (.getstatic 1053, 3) := by decide +kernel
theorem dJ0_checkIndex_df160_5 : decode cJ0_checkIndex_df160 5 = .ok (.invokestatic 1059, 3) := by decide +kernel
theorem dJ0_checkIndex_df160_8 : decode cJ0_checkIndex_df160 8 = .ok (.pop, 1) := by decide +kernel
theorem dJ0_checkIndex_df160_9 : decode cJ0_checkIndex_df160 9 = .ok (.return_, 1) := by decide +kernel
set_option maxRecDepth 20000 in
theorem ggJ1_charAt_3b067_J0_checkIndex_df160 : GoodIn wsJ1_charAt_3b067 wsJ0_checkIndex_df160 := goodIn_r _ [4, 5, 6, 7, 8, 9] (by decide +kernel) (by decide +kernel)
set_option maxRecDepth 20000 in
theorem gJ1_charAt_3b067_J0_checkIndex_df160 : GoodIn wsJ1_charAt_3b067 (va_wsS RJ1 9 yJ0_checkIndex_df160 wsJ0_checkIndex_df160) := goodIn_app (goodIn_of _ (by decide +kernel)) ggJ1_charAt_3b067_J0_checkIndex_df160
theorem dJ1_charAt_3b067_0 : decode cJ1_charAt_3b067 0 = .ok (.iload_n 1, 1) := by decide +kernel
theorem dJ1_charAt_3b067_1 : decode cJ1_charAt_3b067 1 = .ok (.aload_n 0, 1) := by decide +kernel
theorem dJ1_charAt_3b067_2 : decode cJ1_charAt_3b067 2 = .ok (.arraylength, 1) := by decide +kernel
theorem dJ1_charAt_3b067_3 : decode cJ1_charAt_3b067 3 = .ok (.invokestatic 9, 3) := by decide +kernel
theorem dJ1_charAt_3b067_6 : decode cJ1_charAt_3b067 6 = .ok (.aload_n 0, 1) := by decide +kernel
theorem dJ1_charAt_3b067_7 : decode cJ1_charAt_3b067 7 = .ok (.iload_n 1, 1) := by decide +kernel
theorem dJ1_charAt_3b067_8 : decode cJ1_charAt_3b067 8 = .ok (.baload, 1) := by decide +kernel
theorem dJ1_charAt_3b067_9 : decode cJ1_charAt_3b067 9 = .ok (.sipush 255, 3) := by decide +kernel
theorem dJ1_charAt_3b067_12 : decode cJ1_charAt_3b067 12 = .ok (.iand, 1) := by decide +kernel
theorem dJ1_charAt_3b067_13 : decode cJ1_charAt_3b067 13 = .ok (.i2c, 1) := by decide +kernel
theorem dJ1_charAt_3b067_14 : decode cJ1_charAt_3b067 14 = .ok (.ireturn, 1) := by decide +kernel
set_option maxRecDepth 20000 in
theorem ggJ2_getChar_3b067_J2_length_9d52b : GoodIn wsJ2_getChar_3b067 wsJ2_length_9d52b := goodIn_r _ [7] (by decide +kernel) (by decide +kernel)
set_option maxRecDepth 20000 in
theorem gJ2_getChar_3b067_J2_length_9d52b : GoodIn wsJ2_getChar_3b067 (va_wsS RJ2 48 yJ2_length_9d52b wsJ2_length_9d52b) := goodIn_app (goodIn_of _ (by decide +kernel)) ggJ2_getChar_3b067_J2_length_9d52b
theorem dJ2_getChar_3b067_0 : decode cJ2_getChar_3b067 0 = .ok (.getstatic 44, 3) := by decide +kernel
theorem dJ2_getChar_3b067_3 : decode cJ2_getChar_3b067 3 = .ok (.ifCond .ne 25, 3) := by decide +kernel
theorem dJ2_getChar_3b067_6 : decode cJ2_getChar_3b067 6 = .ok (.iload_n 1, 1) := by decide +kernel
theorem dJ2_getChar_3b067_7 : decode cJ2_getChar_3b067 7 = .ok (.ifCond .lt 11, 3) := by decide +kernel
theorem dJ2_getChar_3b067_10 : decode cJ2_getChar_3b067 10 = .ok (.iload_n 1, 1) := by decide +kernel
theorem dJ2_getChar_3b067_11 : decode cJ2_getChar_3b067 11 = .ok (.aload_n 0, 1) := by decide +kernel
theorem dJ2_getChar_3b067_12 : decode cJ2_getChar_3b067 12 = .ok (.invokestatic 48, 3) := by decide +kernel
theorem dJ2_getChar_3b067_15 : decode cJ2_getChar_3b067 15 = .ok (.if_icmp .lt 13, 3) := by decide +kernel
theorem dJ2_getChar_3b067_18 : decode cJ2_getChar_3b067 18 = .ok (.new 52, 3) := by decide +kernel
theorem dJ2_getChar_3b067_21 : decode cJ2_getChar_3b067 21 = .ok (.dup, 1) := by decide +kernel
theorem dJ2_getChar_3b067_22 : decode cJ2_getChar_3b067 22 = .ok (.ldc 54, 2) := by decide +kernel
theorem dJ2_getChar_3b067_24 : decode cJ2_getChar_3b067 24 = .ok (.invokespecial 56, 3) := by decide +kernel
theorem dJ2_getChar_3b067_27 : decode cJ2_getChar_3b067 27 = .ok (.athrow, 1) := by decide +kernel
theorem dJ2_getChar_3b067_28 : decode cJ2_getChar_3b067 28 = .ok (.iload_n 1, 1) := by decide +kernel
theorem dJ2_getChar_3b067_29 : decode cJ2_getChar_3b067 29 = .ok (.iconst 1, 1) := by decide +kernel
theorem dJ2_getChar_3b067_30 : decode cJ2_getChar_3b067 30 = .ok (.ishl, 1) := by decide +kernel
theorem dJ2_getChar_3b067_31 : decode cJ2_getChar_3b067 31 = .ok (.istore_n 1, 1) := by decide +kernel
theorem dJ2_getChar_3b067_32 : decode cJ2_getChar_3b067 32 = .ok (.aload_n 0, 1) := by decide +kernel
theorem dJ2_getChar_3b067_33 : decode cJ2_getChar_3b067 33 = .ok (.iload_n 1, 1) := by decide +kernel
theorem dJ2_getChar_3b067_34 : decode cJ2_getChar_3b067 34 = .ok (.iinc 1 1, 3) := by decide +kernel
theorem dJ2_getChar_3b067_37 : decode cJ2_getChar_3b067 37 = .ok (.baload, 1) := by decide +kernel
theorem dJ2_getChar_3b067_38 : decode cJ2_getChar_3b067 38 = .ok (.sipush 255, 3) := by decide +kernel
theorem dJ2_getChar_3b067_41 : decode cJ2_getChar_3b067 41 = .ok (.iand, 1) := by decide +kernel
theorem dJ2_getChar_3b067_42 : decode cJ2_getChar_3b067 42 = .ok (.getstatic 59, 3) := by decide +kernel
theorem dJ2_getChar_3b067_45 : decode cJ2_getChar_3b067 45 = .ok (.ishl, 1) := by decide +kernel
theorem dJ2_getChar_3b067_46 : decode cJ2_getChar_3b067 46 = .ok (.aload_n 0, 1) := by decide +kernel
theorem dJ2_getChar_3b067_47 : decode cJ2_getChar_3b067 47 = .ok (.iload_n 1, 1) := by decide +kernel
theorem dJ2_getChar_3b067_48 : decode cJ2_getChar_3b067 48 = .ok (.baload, 1) := by decide +kernel
theorem dJ2_getChar_3b067_49 : decode cJ2_getChar_3b067 49 = .ok (.sipush 255, 3) := by decide +kernel
theorem dJ2_getChar_3b067_52 : decode cJ2_getChar_3b067 52 = .ok (.iand, 1) := by decide +kernel
theorem dJ2_getChar_3b067_53 : decode cJ2_getChar_3b067 53 = .ok (.getstatic 63, 3) := by decide +kernel
theorem dJ2_getChar_3b067_56 : decode cJ2_getChar_3b067 56 = .ok (.ishl, 1) := by decide +kernel
theorem dJ2_getChar_3b067_57 : decode cJ2_getChar_3b067 57 = .ok (.ior, 1) := by decide +kernel
theorem dJ2_getChar_3b067_58 : decode cJ2_getChar_3b067 58 = .ok (.i2c, 1) := by decide +kernel
theorem dJ2_getChar_3b067_59 : decode cJ2_getChar_3b067 59 = .ok (.ireturn, 1) := by decide +kernel
theorem dJ2_length_9d52b_0 : decode cJ2_length_9d52b 0 = .ok (.aload_n 0, 1) := by decide +kernel
theorem dJ2_length_9d52b_1 : decode cJ2_length_9d52b 1 = .ok (.arraylength, 1) := by decide +kernel
theorem dJ2_length_9d52b_2 : decode cJ2_length_9d52b 2 = .ok (.iconst 1, 1) := by decide +kernel
theorem dJ2_length_9d52b_3 : decode cJ2_length_9d52b 3 = .ok (.ishr, 1) := by decide +kernel
theorem dJ2_length_9d52b_4 : decode cJ2_length_9d52b 4 = .ok (.ireturn, 1) := by decide +kernel
set_option maxRecDepth 20000 in
theorem ggJ2_charAt_3b067_J2_checkIndex_2214a : GoodIn wsJ2_charAt_3b067 wsJ2_checkIndex_2214a := goodIn_r _ [4, 5, 6, 3, 7, 8, 9, 10, 11, 12, 13, 14, 15, 16] (by decide +kernel) (by decide +kernel)
set_option maxRecDepth 20000 in
theorem gJ2_charAt_3b067_J2_checkIndex_2214a : GoodIn wsJ2_charAt_3b067 (va_wsS RJ2 67 yJ2_checkIndex_2214a wsJ2_checkIndex_2214a) := goodIn_app (goodIn_of _ (by decide +kernel)) ggJ2_charAt_3b067_J2_checkIndex_2214a
set_option maxRecDepth 20000 in
theorem ggJ2_charAt_3b067_J2_getChar_3b067 : GoodIn wsJ2_charAt_3b067 wsJ2_getChar_3b067 := goodIn_r _ [19, 20, 21, 22, 5, 6, 3, 7] (by decide +kernel) (by decide +kernel)
set_option maxRecDepth 20000 in
theorem gJ2_charAt_3b067_J2_getChar_3b067 : GoodIn wsJ2_charAt_3b067 (va_wsS RJ2 71 yJ2_getChar_3b067 wsJ2_getChar_3b067) := goodIn_app (goodIn_of _ (by decide +kernel)) ggJ2_charAt_3b067_J2_getChar_3b067
theorem dJ2_charAt_3b067_0 : decode cJ2_charAt_3b067 0 = .ok (.iload_n 1, 1) := by decide +kernel
theorem dJ2_charAt_3b067_1 : decode cJ2_charAt_3b067 1 = .ok (.aload_n 0, 1) := by decide +kernel
theorem dJ2_charAt_3b067_2 : decode cJ2_charAt_3b067 2 = .ok (.invokestatic 67, 3) := by decide +kernel
theorem dJ2_charAt_3b067_5 : decode cJ2_charAt_3b067 5 = .ok (.aload_n 0, 1) := by decide +kernel
theorem dJ2_charAt_3b067_6 : decode cJ2_charAt_3b067 6 = .ok (.iload_n 1, 1) := by decide +kernel
theorem dJ2_charAt_3b067_7 : decode cJ2_charAt_3b067 7 = .ok (.invokestatic 71, 3) := by decide +kernel
theorem dJ2_charAt_3b067_10 : decode cJ2_charAt_3b067 10 = .ok (.ireturn, 1) := by decide +kernel
set_option maxRecDepth 20000 in
theorem ggJ2_checkIndex_2214a_J2_length_9d52b : GoodIn wsJ2_checkIndex_2214a wsJ2_length_9d52b := goodIn_r _ [4] (by decide +kernel) (by decide +kernel)
set_option maxRecDepth 20000 in
theorem gJ2_checkIndex_2214a_J2_length_9d52b : GoodIn wsJ2_checkIndex_2214a (va_wsS RJ2 48 yJ2_length_9d52b wsJ2_length_9d52b) := goodIn_app (goodIn_of _ (by decide +kernel)) ggJ2_checkIndex_2214a_J2_length_9d52b
set_option maxRecDepth 20000 in
theorem ggJ2_checkIndex_2214a_J0_checkIndex_df160 : GoodIn wsJ2_checkIndex_2214a wsJ0_checkIndex_df160 := goodIn_r _ [8, 9, 10, 11, 12, 13] (by decide +kernel) (by decide +kernel)
set_option maxRecDepth 20000 in
theorem gJ2_checkIndex_2214a_J0_checkIndex_df160 : GoodIn wsJ2_checkIndex_2214a (va_wsS RJ2 414 yJ0_checkIndex_df160 wsJ0_checkIndex_df160) := goodIn_app (goodIn_of _ (by decide +kernel)) ggJ2_checkIndex_2214a_J0_checkIndex_df160
theorem dJ2_checkIndex_2214a_0 : decode cJ2_checkIndex_2214a 0 = .ok (.iload_n 0, 1) := by decide +kernel
theorem dJ2_checkIndex_2214a_1 : decode cJ2_checkIndex_2214a 1 = .ok (.aload_n 1, 1) := by decide +kernel
theorem dJ2_checkIndex_2214a_2 : decode cJ2_checkIndex_2214a 2 = .ok (.invokestatic 48, 3) := by decide +kernel
theorem dJ2_checkIndex_2214a_5 : decode cJ2_checkIndex_2214a 5 = .ok (.invokestatic 414, 3) := by decide +kernel
theorem dJ2_checkIndex_2214a_8 : decode cJ2_checkIndex_2214a 8 = .ok (.return_, 1) := by decide +kernel
theorem dJ3_checkIndex_8e157_0 : decode cJ3_checkIndex_8e157 0 = .ok (.iload_n 0, 1) := by decide +kernel
theorem dJ3_checkIndex_8e157_1 : decode cJ3_checkIndex_8e157 1 = .ok (.ifCond .lt 8, 3) := by decide +kernel
theorem dJ3_checkIndex_8e157_4 : decode cJ3_checkIndex_8e157 4 = .ok (.iload_n 0, 1) := by decide +kernel
theorem dJ3_checkIndex_8e157_5 : decode cJ3_checkIndex_8e157 5 = .ok (.iload_n 1, 1) := by decide +kernel
theorem dJ3_checkIndex_8e157_6 : decode cJ3_checkIndex_8e157 6 = .ok (.if_icmp .lt 10, 3) := by decide +kernel
theorem dJ3_checkIndex_8e157_9 : decode cJ3_checkIndex_8e157 9 = .ok (.aload_n 2, 1) := by decide +kernel
theorem dJ3_checkIndex_8e157_10 : decode cJ3_checkIndex_8e157 10 = .ok (.iload_n 0, 1) := by decide +kernel
theorem dJ3_checkIndex_8e157_11 : decode cJ3_checkIndex_8e157 11 = .ok (.iload_n 1, 1) := by decide +kernel
theorem dJ3_checkIndex_8e157_12 : decode cJ3_checkIndex_8e157 12 = .ok (.invokestatic 95, 3) := by decide +kernel
theorem dJ3_checkIndex_8e157_15 : decode cJ3_checkIndex_8e157 15 = .ok (.athrow, 1) := by decide +kernel
theorem dJ3_checkIndex_8e157_16 : decode cJ3_checkIndex_8e157 16 = .ok (.iload_n 0, 1) := by decide +kernel
theorem dJ3_checkIndex_8e157_17 : decode cJ3_checkIndex_8e157 17 = .ok (.ireturn, 1) := by decide +kernel
