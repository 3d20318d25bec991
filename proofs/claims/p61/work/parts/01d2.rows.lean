theorem dX11_stack_9 : decode cX11_stack 9 = .ok (.ifCond .lt 8, 3) := by decide +kernel
theorem dX11_stack_12 : decode cX11_stack 12 = .ok (.iload_n 2, 1) := by decide +kernel
theorem dX11_stack_13 : decode cX11_stack 13 = .ok (.iconst 5, 1) := by decide +kernel
theorem dX11_stack_14 : decode cX11_stack 14 = .ok (.if_icmp .le 10, 3) := by decide +kernel
theorem dX11_stack_17 : decode cX11_stack 17 = .ok (.aload_n 0, 1) := by decide +kernel
theorem dX11_stack_18 : decode cX11_stack 18 = .ok (.iconst 1, 1) := by decide +kernel
theorem dX11_stack_19 : decode cX11_stack 19 = .ok (.iconst (-1), 1) := by decide +kernel
theorem dX11_stack_20 : decode cX11_stack 20 = .ok (.invokevirtual 82, 3) := by decide +kernel
theorem dX11_stack_23 : decode cX11_stack 23 = .ok (.ireturn, 1) := by decide +kernel
theorem dX11_stack_24 : decode cX11_stack 24 = .ok (.aload_n 0, 1) := by decide +kernel
theorem dX11_stack_25 : decode cX11_stack 25 = .ok (.getfield 28, 3) := by decide +kernel
theorem dX11_stack_28 : decode cX11_stack 28 = .ok (.iload_n 1, 1) := by decide +kernel
theorem dX11_stack_29 : decode cX11_stack 29 = .ok (.invokevirtual 124, 3) := by decide +kernel
theorem dX11_stack_32 : decode cX11_stack 32 = .ok (.istore_n 3, 1) := by decide +kernel
theorem dX11_stack_33 : decode cX11_stack 33 = .ok (.aload_n 0, 1) := by decide +kernel
theorem dX11_stack_34 : decode cX11_stack 34 = .ok (.getfield 28, 3) := by decide +kernel
theorem dX11_stack_37 : decode cX11_stack 37 = .ok (.iload_n 1, 1) := by decide +kernel
theorem dX11_stack_38 : decode cX11_stack 38 = .ok (.invokevirtual 127, 3) := by decide +kernel
theorem dX11_stack_41 : decode cX11_stack 41 = .ok (.istore 4, 2) := by decide +kernel
theorem dX11_stack_43 : decode cX11_stack 43 = .ok (.iload_n 2, 1) := by decide +kernel
theorem dX11_stack_44 : decode cX11_stack 44 = .ok (.tableswitch 82 0 4 #[36, 43, 49, 60, 71], 36) := by decide +kernel
theorem dX11_stack_80 : decode cX11_stack 80 = .ok (.aload_n 0, 1) := by decide +kernel
theorem dX11_stack_81 : decode cX11_stack 81 = .ok (.iload 4, 2) := by decide +kernel
theorem dX11_stack_83 : decode cX11_stack 83 = .ok (.invokevirtual 114, 3) := by decide +kernel
theorem dX11_stack_86 : decode cX11_stack 86 = .ok (.ireturn, 1) := by decide +kernel
theorem dX11_stack_87 : decode cX11_stack 87 = .ok (.aload_n 0, 1) := by decide +kernel
theorem dX11_stack_88 : decode cX11_stack 88 = .ok (.iload_n 3, 1) := by decide +kernel
theorem dX11_stack_89 : decode cX11_stack 89 = .ok (.invokevirtual 114, 3) := by decide +kernel
theorem dX11_stack_92 : decode cX11_stack 92 = .ok (.ireturn, 1) := by decide +kernel
theorem dX11_stack_93 : decode cX11_stack 93 = .ok (.aload_n 0, 1) := by decide +kernel
theorem dX11_stack_94 : decode cX11_stack 94 = .ok (.iload_n 3, 1) := by decide +kernel
theorem dX11_stack_95 : decode cX11_stack 95 = .ok (.iload 4, 2) := by decide +kernel
theorem dX11_stack_97 : decode cX11_stack 97 = .ok (.invokestatic 130, 3) := by decide +kernel
theorem dX11_stack_100 : decode cX11_stack 100 = .ok (.invokevirtual 114, 3) := by decide +kernel
theorem dX11_stack_103 : decode cX11_stack 103 = .ok (.ireturn, 1) := by decide +kernel
theorem dX11_stack_104 : decode cX11_stack 104 = .ok (.aload_n 0, 1) := by decide +kernel
theorem dX11_stack_105 : decode cX11_stack 105 = .ok (.iload_n 3, 1) := by decide +kernel
theorem dX11_stack_106 : decode cX11_stack 106 = .ok (.iload 4, 2) := by decide +kernel
theorem dX11_stack_108 : decode cX11_stack 108 = .ok (.invokestatic 135, 3) := by decide +kernel
theorem dX11_stack_111 : decode cX11_stack 111 = .ok (.invokevirtual 114, 3) := by decide +kernel
theorem dX11_stack_114 : decode cX11_stack 114 = .ok (.ireturn, 1) := by decide +kernel
theorem dX11_stack_115 : decode cX11_stack 115 = .ok (.aload_n 0, 1) := by decide +kernel
theorem dX11_stack_116 : decode cX11_stack 116 = .ok (.iload_n 3, 1) := by decide +kernel
theorem dX11_stack_117 : decode cX11_stack 117 = .ok (.iload 4, 2) := by decide +kernel
theorem dX11_stack_119 : decode cX11_stack 119 = .ok (.invokestatic 138, 3) := by decide +kernel
theorem dX11_stack_122 : decode cX11_stack 122 = .ok (.invokevirtual 114, 3) := by decide +kernel
theorem dX11_stack_125 : decode cX11_stack 125 = .ok (.ireturn, 1) := by decide +kernel
theorem dX11_stack_126 : decode cX11_stack 126 = .ok (.aload_n 0, 1) := by decide +kernel
theorem dX11_stack_127 : decode cX11_stack 127 = .ok (.iload_n 3, 1) := by decide +kernel
theorem dX11_stack_128 : decode cX11_stack 128 = .ok (.iload 4, 2) := by decide +kernel
theorem dX11_stack_130 : decode cX11_stack 130 = .ok (.invokestatic 141, 3) := by decide +kernel
theorem dX11_stack_133 : decode cX11_stack 133 = .ok (.invokevirtual 114, 3) := by decide +kernel
theorem dX11_stack_136 : decode cX11_stack 136 = .ok (.ireturn, 1) := by decide +kernel
set_option maxRecDepth 20000 in
theorem ggX11_sum_X11_lacks : GoodIn wsX11_sum wsX11_lacks := goodIn_r _ [6, 1, 40, 41, 42, 43, 44, 45, 46, 47, 48, 49, 50, 51, 52, 53, 54] (by decide +kernel) (by decide +kernel)
set_option maxRecDepth 20000 in
theorem gX11_sum_X11_lacks : GoodIn wsX11_sum (wsV RX11 121 RX11 yX11_lacks wsX11_lacks) := goodIn_app (goodIn_of _ (by decide +kernel)) ggX11_sum_X11_lacks
set_option maxRecDepth 20000 in
theorem ggX11_sum_X11_refused : GoodIn wsX11_sum wsX11_refused := goodIn_r _ [10, 11, 40, 41, 42, 43, 44, 45, 46, 47, 48, 49, 50, 51] (by decide +kernel) (by decide +kernel)
set_option maxRecDepth 20000 in
theorem gX11_sum_X11_refused : GoodIn wsX11_sum (wsV RX11 82 RX11 yX11_refused wsX11_refused) := goodIn_app (goodIn_of _ (by decide +kernel)) ggX11_sum_X11_refused
set_option maxRecDepth 20000 in
theorem ggX11_sum_X9_row : GoodIn wsX11_sum wsX9_row := goodIn_r _ [16, 17, 18, 5, 19, 52, 53, 54] (by decide +kernel) (by decide +kernel)
set_option maxRecDepth 20000 in
theorem gX11_sum_X9_row : GoodIn wsX11_sum (wsV RX11 124 RX9 yX9_row wsX9_row) := goodIn_app (goodIn_of _ (by decide +kernel)) ggX11_sum_X9_row
set_option maxRecDepth 20000 in
theorem ggX11_sum_X9_steps : GoodIn wsX11_sum wsX9_steps := goodIn_r _ [23, 24, 18, 5, 19, 52, 53, 54] (by decide +kernel) (by decide +kernel)
set_option maxRecDepth 20000 in
theorem gX11_sum_X9_steps : GoodIn wsX11_sum (wsV RX11 127 RX9 yX9_steps wsX9_steps) := goodIn_app (goodIn_of _ (by decide +kernel)) ggX11_sum_X9_steps
set_option maxRecDepth 20000 in
theorem ggX11_sum_X8_total : GoodIn wsX11_sum wsX8_total := goodIn_r _ [28, 29, 30, 31, 32, 33, 34, 35] (by decide +kernel) (by decide +kernel)
set_option maxRecDepth 20000 in
theorem gX11_sum_X8_total : GoodIn wsX11_sum (va_wsS RX11 144 yX8_total wsX8_total) := goodIn_app (goodIn_of _ (by decide +kernel)) ggX11_sum_X8_total
set_option maxRecDepth 20000 in
theorem ggX11_sum_X11_granted : GoodIn wsX11_sum wsX11_granted := goodIn_r _ [39, 11, 40, 41, 42, 43, 44, 45, 46, 47, 48, 49, 50, 51] (by decide +kernel) (by decide +kernel)
set_option maxRecDepth 20000 in
theorem gX11_sum_X11_granted : GoodIn wsX11_sum (wsV RX11 114 RX11 yX11_granted wsX11_granted) := goodIn_app (goodIn_of _ (by decide +kernel)) ggX11_sum_X11_granted
theorem dX11_sum_0 : decode cX11_sum 0 = .ok (.aload_n 0, 1) := by decide +kernel
theorem dX11_sum_1 : decode cX11_sum 1 = .ok (.iload_n 1, 1) := by decide +kernel
theorem dX11_sum_2 : decode cX11_sum 2 = .ok (.invokevirtual 121, 3) := by decide +kernel
theorem dX11_sum_5 : decode cX11_sum 5 = .ok (.ifCond .eq 11, 3) := by decide +kernel
theorem dX11_sum_8 : decode cX11_sum 8 = .ok (.aload_n 0, 1) := by decide +kernel
theorem dX11_sum_9 : decode cX11_sum 9 = .ok (.iconst 1, 1) := by decide +kernel
theorem dX11_sum_10 : decode cX11_sum 10 = .ok (.bipush (-100), 2) := by decide +kernel
theorem dX11_sum_12 : decode cX11_sum 12 = .ok (.invokevirtual 82, 3) := by decide +kernel
theorem dX11_sum_15 : decode cX11_sum 15 = .ok (.ireturn, 1) := by decide +kernel
theorem dX11_sum_16 : decode cX11_sum 16 = .ok (.aload_n 0, 1) := by decide +kernel
theorem dX11_sum_17 : decode cX11_sum 17 = .ok (.aload_n 0, 1) := by decide +kernel
theorem dX11_sum_18 : decode cX11_sum 18 = .ok (.getfield 28, 3) := by decide +kernel
theorem dX11_sum_21 : decode cX11_sum 21 = .ok (.iload_n 1, 1) := by decide +kernel
theorem dX11_sum_22 : decode cX11_sum 22 = .ok (.invokevirtual 124, 3) := by decide +kernel
theorem dX11_sum_25 : decode cX11_sum 25 = .ok (.aload_n 0, 1) := by decide +kernel
theorem dX11_sum_26 : decode cX11_sum 26 = .ok (.getfield 28, 3) := by decide +kernel
theorem dX11_sum_29 : decode cX11_sum 29 = .ok (.iload_n 1, 1) := by decide +kernel
theorem dX11_sum_30 : decode cX11_sum 30 = .ok (.invokevirtual 127, 3) := by decide +kernel
theorem dX11_sum_33 : decode cX11_sum 33 = .ok (.invokestatic 144, 3) := by decide +kernel
theorem dX11_sum_36 : decode cX11_sum 36 = .ok (.invokevirtual 114, 3) := by decide +kernel
theorem dX11_sum_39 : decode cX11_sum 39 = .ok (.ireturn, 1) := by decide +kernel
set_option maxRecDepth 20000 in
theorem ggX11_layer_X11_lacks : GoodIn wsX11_layer wsX11_lacks := goodIn_r _ [6, 1, 42, 43, 44, 45, 46, 47, 48, 49, 50, 51, 52, 53, 54, 55, 56] (by decide +kernel) (by decide +kernel)
set_option maxRecDepth 20000 in
theorem gX11_layer_X11_lacks : GoodIn wsX11_layer (wsV RX11 121 RX11 yX11_lacks wsX11_lacks) := goodIn_app (goodIn_of _ (by decide +kernel)) ggX11_layer_X11_lacks
set_option maxRecDepth 20000 in
theorem ggX11_layer_X11_refused : GoodIn wsX11_layer wsX11_refused := goodIn_r _ [10, 11, 42, 43, 44, 45, 46, 47, 48, 49, 50, 51, 52, 53] (by decide +kernel) (by decide +kernel)
set_option maxRecDepth 20000 in
theorem gX11_layer_X11_refused : GoodIn wsX11_layer (wsV RX11 82 RX11 yX11_refused wsX11_refused) := goodIn_app (goodIn_of _ (by decide +kernel)) ggX11_layer_X11_refused
set_option maxRecDepth 20000 in
theorem ggX11_layer_X9_row : GoodIn wsX11_layer wsX9_row := goodIn_r _ [16, 17, 18, 5, 19, 54, 55, 56] (by decide +kernel) (by decide +kernel)
set_option maxRecDepth 20000 in
theorem gX11_layer_X9_row : GoodIn wsX11_layer (wsV RX11 124 RX9 yX9_row wsX9_row) := goodIn_app (goodIn_of _ (by decide +kernel)) ggX11_layer_X9_row
set_option maxRecDepth 20000 in
theorem ggX11_layer_X9_steps : GoodIn wsX11_layer wsX9_steps := goodIn_r _ [23, 24, 18, 5, 19, 54, 55, 56] (by decide +kernel) (by decide +kernel)
set_option maxRecDepth 20000 in
theorem gX11_layer_X9_steps : GoodIn wsX11_layer (wsV RX11 127 RX9 yX9_steps wsX9_steps) := goodIn_app (goodIn_of _ (by decide +kernel)) ggX11_layer_X9_steps
set_option maxRecDepth 20000 in
theorem ggX11_layer_X8_letterAt : GoodIn wsX11_layer wsX8_letterAt := goodIn_r _ [28, 29, 30, 27, 31, 32, 33, 34, 35, 36, 37] (by decide +kernel) (by decide +kernel)
set_option maxRecDepth 20000 in
theorem gX11_layer_X8_letterAt : GoodIn wsX11_layer (va_wsS RX11 147 yX8_letterAt wsX8_letterAt) := goodIn_app (goodIn_of _ (by decide +kernel)) ggX11_layer_X8_letterAt
set_option maxRecDepth 20000 in
theorem ggX11_layer_X11_granted : GoodIn wsX11_layer wsX11_granted := goodIn_r _ [41, 11, 42, 43, 44, 45, 46, 47, 48, 49, 50, 51, 52, 53] (by decide +kernel) (by decide +kernel)
set_option maxRecDepth 20000 in
theorem gX11_layer_X11_granted : GoodIn wsX11_layer (wsV RX11 114 RX11 yX11_granted wsX11_granted) := goodIn_app (goodIn_of _ (by decide +kernel)) ggX11_layer_X11_granted
theorem dX11_layer_0 : decode cX11_layer 0 = .ok (.aload_n 0, 1) := by decide +kernel
theorem dX11_layer_1 : decode cX11_layer 1 = .ok (.iload_n 1, 1) := by decide +kernel
theorem dX11_layer_2 : decode cX11_layer 2 = .ok (.invokevirtual 121, 3) := by decide +kernel
theorem dX11_layer_5 : decode cX11_layer 5 = .ok (.ifCond .eq 10, 3) := by decide +kernel
theorem dX11_layer_8 : decode cX11_layer 8 = .ok (.aload_n 0, 1) := by decide +kernel
theorem dX11_layer_9 : decode cX11_layer 9 = .ok (.iconst 1, 1) := by decide +kernel
theorem dX11_layer_10 : decode cX11_layer 10 = .ok (.iconst (-1), 1) := by decide +kernel
theorem dX11_layer_11 : decode cX11_layer 11 = .ok (.invokevirtual 82, 3) := by decide +kernel
theorem dX11_layer_14 : decode cX11_layer 14 = .ok (.ireturn, 1) := by decide +kernel
theorem dX11_layer_15 : decode cX11_layer 15 = .ok (.iload_n 2, 1) := by decide +kernel
theorem dX11_layer_16 : decode cX11_layer 16 = .ok (.ifCond .lt 9, 3) := by decide +kernel
theorem dX11_layer_19 : decode cX11_layer 19 = .ok (.iload_n 2, 1) := by decide +kernel
theorem dX11_layer_20 : decode cX11_layer 20 = .ok (.bipush 36, 2) := by decide +kernel
theorem dX11_layer_22 : decode cX11_layer 22 = .ok (.if_icmp .lt 10, 3) := by decide +kernel
theorem dX11_layer_25 : decode cX11_layer 25 = .ok (.aload_n 0, 1) := by decide +kernel
theorem dX11_layer_26 : decode cX11_layer 26 = .ok (.iconst 2, 1) := by decide +kernel
theorem dX11_layer_27 : decode cX11_layer 27 = .ok (.iconst (-1), 1) := by decide +kernel
theorem dX11_layer_28 : decode cX11_layer 28 = .ok (.invokevirtual 82, 3) := by decide +kernel
theorem dX11_layer_31 : decode cX11_layer 31 = .ok (.ireturn, 1) := by decide +kernel
theorem dX11_layer_32 : decode cX11_layer 32 = .ok (.aload_n 0, 1) := by decide +kernel
theorem dX11_layer_33 : decode cX11_layer 33 = .ok (.aload_n 0, 1) := by decide +kernel
theorem dX11_layer_34 : decode cX11_layer 34 = .ok (.getfield 28, 3) := by decide +kernel
theorem dX11_layer_37 : decode cX11_layer 37 = .ok (.iload_n 1, 1) := by decide +kernel
theorem dX11_layer_38 : decode cX11_layer 38 = .ok (.invokevirtual 124, 3) := by decide +kernel
theorem dX11_layer_41 : decode cX11_layer 41 = .ok (.aload_n 0, 1) := by decide +kernel
theorem dX11_layer_42 : decode cX11_layer 42 = .ok (.getfield 28, 3) := by decide +kernel
theorem dX11_layer_45 : decode cX11_layer 45 = .ok (.iload_n 1, 1) := by decide +kernel
theorem dX11_layer_46 : decode cX11_layer 46 = .ok (.invokevirtual 127, 3) := by decide +kernel
theorem dX11_layer_49 : decode cX11_layer 49 = .ok (.iload_n 2, 1) := by decide +kernel
theorem dX11_layer_50 : decode cX11_layer 50 = .ok (.invokestatic 147, 3) := by decide +kernel
theorem dX11_layer_53 : decode cX11_layer 53 = .ok (.invokevirtual 114, 3) := by decide +kernel
theorem dX11_layer_56 : decode cX11_layer 56 = .ok (.ireturn, 1) := by decide +kernel
set_option maxRecDepth 20000 in
theorem ggX11_hex_X11_lacks : GoodIn wsX11_hex wsX11_lacks := goodIn_r _ [6, 1, 42, 43, 44, 45, 46, 47, 48, 49, 50, 51, 52, 53, 54, 55, 56] (by decide +kernel) (by decide +kernel)
set_option maxRecDepth 20000 in
theorem gX11_hex_X11_lacks : GoodIn wsX11_hex (wsV RX11 121 RX11 yX11_lacks wsX11_lacks) := goodIn_app (goodIn_of _ (by decide +kernel)) ggX11_hex_X11_lacks
set_option maxRecDepth 20000 in
theorem ggX11_hex_X11_refused : GoodIn wsX11_hex wsX11_refused := goodIn_r _ [10, 11, 42, 43, 44, 45, 46, 47, 48, 49, 50, 51, 52, 53] (by decide +kernel) (by decide +kernel)
set_option maxRecDepth 20000 in
theorem gX11_hex_X11_refused : GoodIn wsX11_hex (wsV RX11 82 RX11 yX11_refused wsX11_refused) := goodIn_app (goodIn_of _ (by decide +kernel)) ggX11_hex_X11_refused
set_option maxRecDepth 20000 in
theorem ggX11_hex_X9_steps : GoodIn wsX11_hex wsX9_steps := goodIn_r _ [16, 17, 18, 5, 19, 54, 55, 56] (by decide +kernel) (by decide +kernel)
set_option maxRecDepth 20000 in
theorem gX11_hex_X9_steps : GoodIn wsX11_hex (wsV RX11 127 RX9 yX9_steps wsX9_steps) := goodIn_app (goodIn_of _ (by decide +kernel)) ggX11_hex_X9_steps
set_option maxRecDepth 20000 in
theorem ggX11_hex_X9_row : GoodIn wsX11_hex wsX9_row := goodIn_r _ [23, 24, 18, 5, 19, 54, 55, 56] (by decide +kernel) (by decide +kernel)
set_option maxRecDepth 20000 in
theorem gX11_hex_X9_row : GoodIn wsX11_hex (wsV RX11 124 RX9 yX9_row wsX9_row) := goodIn_app (goodIn_of _ (by decide +kernel)) ggX11_hex_X9_row
set_option maxRecDepth 20000 in
theorem ggX11_hex_X8_turnedBy : GoodIn wsX11_hex wsX8_turnedBy := goodIn_r _ [28, 29, 30, 27, 31] (by decide +kernel) (by decide +kernel)
set_option maxRecDepth 20000 in
theorem gX11_hex_X8_turnedBy : GoodIn wsX11_hex (va_wsS RX11 151 yX8_turnedBy wsX8_turnedBy) := goodIn_app (goodIn_of _ (by decide +kernel)) ggX11_hex_X8_turnedBy
set_option maxRecDepth 20000 in
theorem ggX11_hex_X8_beginsRun : GoodIn wsX11_hex wsX8_beginsRun := goodIn_r _ [34, 35, 36, 27, 37] (by decide +kernel) (by decide +kernel)
set_option maxRecDepth 20000 in
theorem gX11_hex_X8_beginsRun : GoodIn wsX11_hex (va_wsS RX11 154 yX8_beginsRun wsX8_beginsRun) := goodIn_app (goodIn_of _ (by decide +kernel)) ggX11_hex_X8_beginsRun
set_option maxRecDepth 20000 in
theorem ggX11_hex_X11_granted : GoodIn wsX11_hex wsX11_granted := goodIn_r _ [41, 11, 42, 43, 44, 45, 46, 47, 48, 49, 50, 51, 52, 53] (by decide +kernel) (by decide +kernel)
set_option maxRecDepth 20000 in
theorem gX11_hex_X11_granted : GoodIn wsX11_hex (wsV RX11 114 RX11 yX11_granted wsX11_granted) := goodIn_app (goodIn_of _ (by decide +kernel)) ggX11_hex_X11_granted
theorem dX11_hex_0 : decode cX11_hex 0 = .ok (.aload_n 0, 1) := by decide +kernel
theorem dX11_hex_1 : decode cX11_hex 1 = .ok (.iload_n 1, 1) := by decide +kernel
theorem dX11_hex_2 : decode cX11_hex 2 = .ok (.invokevirtual 121, 3) := by decide +kernel
theorem dX11_hex_5 : decode cX11_hex 5 = .ok (.ifCond .eq 10, 3) := by decide +kernel
theorem dX11_hex_8 : decode cX11_hex 8 = .ok (.aload_n 0, 1) := by decide +kernel
theorem dX11_hex_9 : decode cX11_hex 9 = .ok (.iconst 1, 1) := by decide +kernel
theorem dX11_hex_10 : decode cX11_hex 10 = .ok (.iconst (-1), 1) := by decide +kernel
theorem dX11_hex_11 : decode cX11_hex 11 = .ok (.invokevirtual 82, 3) := by decide +kernel
theorem dX11_hex_14 : decode cX11_hex 14 = .ok (.ireturn, 1) := by decide +kernel
theorem dX11_hex_15 : decode cX11_hex 15 = .ok (.iload_n 2, 1) := by decide +kernel
theorem dX11_hex_16 : decode cX11_hex 16 = .ok (.ifCond .lt 9, 3) := by decide +kernel
theorem dX11_hex_19 : decode cX11_hex 19 = .ok (.iload_n 2, 1) := by decide +kernel
theorem dX11_hex_20 : decode cX11_hex 20 = .ok (.bipush 36, 2) := by decide +kernel
theorem dX11_hex_22 : decode cX11_hex 22 = .ok (.if_icmp .lt 10, 3) := by decide +kernel
theorem dX11_hex_25 : decode cX11_hex 25 = .ok (.aload_n 0, 1) := by decide +kernel
theorem dX11_hex_26 : decode cX11_hex 26 = .ok (.iconst 2, 1) := by decide +kernel
theorem dX11_hex_27 : decode cX11_hex 27 = .ok (.iconst (-1), 1) := by decide +kernel
theorem dX11_hex_28 : decode cX11_hex 28 = .ok (.invokevirtual 82, 3) := by decide +kernel
theorem dX11_hex_31 : decode cX11_hex 31 = .ok (.ireturn, 1) := by decide +kernel
theorem dX11_hex_32 : decode cX11_hex 32 = .ok (.aload_n 0, 1) := by decide +kernel
theorem dX11_hex_33 : decode cX11_hex 33 = .ok (.getfield 28, 3) := by decide +kernel
theorem dX11_hex_36 : decode cX11_hex 36 = .ok (.iload_n 1, 1) := by decide +kernel
theorem dX11_hex_37 : decode cX11_hex 37 = .ok (.invokevirtual 127, 3) := by decide +kernel
theorem dX11_hex_40 : decode cX11_hex 40 = .ok (.istore_n 3, 1) := by decide +kernel
theorem dX11_hex_41 : decode cX11_hex 41 = .ok (.aload_n 0, 1) := by decide +kernel
theorem dX11_hex_42 : decode cX11_hex 42 = .ok (.getfield 28, 3) := by decide +kernel
theorem dX11_hex_45 : decode cX11_hex 45 = .ok (.iload_n 1, 1) := by decide +kernel
theorem dX11_hex_46 : decode cX11_hex 46 = .ok (.invokevirtual 124, 3) := by decide +kernel
theorem dX11_hex_49 : decode cX11_hex 49 = .ok (.iload_n 3, 1) := by decide +kernel
theorem dX11_hex_50 : decode cX11_hex 50 = .ok (.iload_n 2, 1) := by decide +kernel
theorem dX11_hex_51 : decode cX11_hex 51 = .ok (.invokestatic 151, 3) := by decide +kernel
theorem dX11_hex_54 : decode cX11_hex 54 = .ok (.istore 4, 2) := by decide +kernel
theorem dX11_hex_56 : decode cX11_hex 56 = .ok (.aload_n 0, 1) := by decide +kernel
theorem dX11_hex_57 : decode cX11_hex 57 = .ok (.iload 4, 2) := by decide +kernel
theorem dX11_hex_59 : decode cX11_hex 59 = .ok (.iload_n 3, 1) := by decide +kernel
theorem dX11_hex_60 : decode cX11_hex 60 = .ok (.invokestatic 154, 3) := by decide +kernel
theorem dX11_hex_63 : decode cX11_hex 63 = .ok (.ifCond .eq 7, 3) := by decide +kernel
theorem dX11_hex_66 : decode cX11_hex 66 = .ok (.iconst 1, 1) := by decide +kernel
theorem dX11_hex_67 : decode cX11_hex 67 = .ok (.goto 4, 3) := by decide +kernel
theorem dX11_hex_70 : decode cX11_hex 70 = .ok (.iconst 0, 1) := by decide +kernel
theorem dX11_hex_71 : decode cX11_hex 71 = .ok (.invokevirtual 114, 3) := by decide +kernel
theorem dX11_hex_74 : decode cX11_hex 74 = .ok (.ireturn, 1) := by decide +kernel
set_option maxRecDepth 20000 in
theorem ggX11_run_X11_lacks : GoodIn wsX11_run wsX11_lacks := goodIn_r _ [6, 1, 62, 63, 64, 65, 66, 67, 68, 69, 70, 71, 72, 73, 74, 75, 76] (by decide +kernel) (by decide +kernel)
set_option maxRecDepth 20000 in
theorem gX11_run_X11_lacks : GoodIn wsX11_run (wsV RX11 121 RX11 yX11_lacks wsX11_lacks) := goodIn_app (goodIn_of _ (by decide +kernel)) ggX11_run_X11_lacks
set_option maxRecDepth 20000 in
theorem ggX11_run_X11_refused : GoodIn wsX11_run wsX11_refused := goodIn_r _ [10, 11, 62, 63, 64, 65, 66, 67, 68, 69, 70, 71, 72, 73] (by decide +kernel) (by decide +kernel)
set_option maxRecDepth 20000 in
theorem gX11_run_X11_refused : GoodIn wsX11_run (wsV RX11 82 RX11 yX11_refused wsX11_refused) := goodIn_app (goodIn_of _ (by decide +kernel)) ggX11_run_X11_refused
set_option maxRecDepth 20000 in
theorem ggX11_run_X9_row : GoodIn wsX11_run wsX9_row := goodIn_r _ [16, 17, 18, 5, 19, 74, 75, 76] (by decide +kernel) (by decide +kernel)
set_option maxRecDepth 20000 in
theorem gX11_run_X9_row : GoodIn wsX11_run (wsV RX11 124 RX9 yX9_row wsX9_row) := goodIn_app (goodIn_of _ (by decide +kernel)) ggX11_run_X9_row
set_option maxRecDepth 20000 in
theorem ggX11_run_X9_steps : GoodIn wsX11_run wsX9_steps := goodIn_r _ [23, 24, 18, 5, 19, 74, 75, 76] (by decide +kernel) (by decide +kernel)
set_option maxRecDepth 20000 in
theorem gX11_run_X9_steps : GoodIn wsX11_run (wsV RX11 127 RX9 yX9_steps wsX9_steps) := goodIn_app (goodIn_of _ (by decide +kernel)) ggX11_run_X9_steps
set_option maxRecDepth 20000 in
theorem ggX11_run_X8_runs : GoodIn wsX11_run wsX8_runs := goodIn_r _ [28, 29, 30, 31, 32, 33, 34, 27, 35, 36, 37, 38, 39, 40, 41, 42, 43, 44, 45] (by decide +kernel) (by decide +kernel)
set_option maxRecDepth 20000 in
theorem gX11_run_X8_runs : GoodIn wsX11_run (va_wsS RX11 141 yX8_runs wsX8_runs) := goodIn_app (goodIn_of _ (by decide +kernel)) ggX11_run_X8_runs
set_option maxRecDepth 20000 in
theorem ggX11_run_X8_runLength : GoodIn wsX11_run wsX8_runLength := goodIn_r _ [48, 33, 34, 27, 35, 36, 37, 38, 39, 40, 41, 42, 43, 44, 45, 49, 50, 51, 52, 53, 54, 55, 56, 57] (by decide +kernel) (by decide +kernel)
set_option maxRecDepth 20000 in
theorem gX11_run_X8_runLength : GoodIn wsX11_run (va_wsS RX11 158 yX8_runLength wsX8_runLength) := goodIn_app (goodIn_of _ (by decide +kernel)) ggX11_run_X8_runLength
set_option maxRecDepth 20000 in
theorem ggX11_run_X11_granted : GoodIn wsX11_run wsX11_granted := goodIn_r _ [61, 11, 62, 63, 64, 65, 66, 67, 68, 69, 70, 71, 72, 73] (by decide +kernel) (by decide +kernel)
set_option maxRecDepth 20000 in
theorem gX11_run_X11_granted : GoodIn wsX11_run (wsV RX11 114 RX11 yX11_granted wsX11_granted) := goodIn_app (goodIn_of _ (by decide +kernel)) ggX11_run_X11_granted
theorem dX11_run_0 : decode cX11_run 0 = .ok (.aload_n 0, 1) := by decide +kernel
theorem dX11_run_1 : decode cX11_run 1 = .ok (.iload_n 1, 1) := by decide +kernel
theorem dX11_run_2 : decode cX11_run 2 = .ok (.invokevirtual 121, 3) := by decide +kernel
theorem dX11_run_5 : decode cX11_run 5 = .ok (.ifCond .eq 10, 3) := by decide +kernel
theorem dX11_run_8 : decode cX11_run 8 = .ok (.aload_n 0, 1) := by decide +kernel
theorem dX11_run_9 : decode cX11_run 9 = .ok (.iconst 1, 1) := by decide +kernel
theorem dX11_run_10 : decode cX11_run 10 = .ok (.iconst (-1), 1) := by decide +kernel
theorem dX11_run_11 : decode cX11_run 11 = .ok (.invokevirtual 82, 3) := by decide +kernel
theorem dX11_run_14 : decode cX11_run 14 = .ok (.ireturn, 1) := by decide +kernel
theorem dX11_run_15 : decode cX11_run 15 = .ok (.aload_n 0, 1) := by decide +kernel
theorem dX11_run_16 : decode cX11_run 16 = .ok (.getfield 28, 3) := by decide +kernel
theorem dX11_run_19 : decode cX11_run 19 = .ok (.iload_n 1, 1) := by decide +kernel
theorem dX11_run_20 : decode cX11_run 20 = .ok (.invokevirtual 124, 3) := by decide +kernel
theorem dX11_run_23 : decode cX11_run 23 = .ok (.istore_n 3, 1) := by decide +kernel
theorem dX11_run_24 : decode cX11_run 24 = .ok (.aload_n 0, 1) := by decide +kernel
theorem dX11_run_25 : decode cX11_run 25 = .ok (.getfield 28, 3) := by decide +kernel
theorem dX11_run_28 : decode cX11_run 28 = .ok (.iload_n 1, 1) := by decide +kernel
theorem dX11_run_29 : decode cX11_run 29 = .ok (.invokevirtual 127, 3) := by decide +kernel
theorem dX11_run_32 : decode cX11_run 32 = .ok (.istore 4, 2) := by decide +kernel
theorem dX11_run_34 : decode cX11_run 34 = .ok (.iload_n 2, 1) := by decide +kernel
theorem dX11_run_35 : decode cX11_run 35 = .ok (.ifCond .lt 13, 3) := by decide +kernel
theorem dX11_run_38 : decode cX11_run 38 = .ok (.iload_n 2, 1) := by decide +kernel
theorem dX11_run_39 : decode cX11_run 39 = .ok (.iload_n 3, 1) := by decide +kernel
theorem dX11_run_40 : decode cX11_run 40 = .ok (.iload 4, 2) := by decide +kernel
theorem dX11_run_42 : decode cX11_run 42 = .ok (.invokestatic 141, 3) := by decide +kernel
theorem dX11_run_45 : decode cX11_run 45 = .ok (.if_icmp .lt 10, 3) := by decide +kernel
theorem dX11_run_48 : decode cX11_run 48 = .ok (.aload_n 0, 1) := by decide +kernel
theorem dX11_run_49 : decode cX11_run 49 = .ok (.iconst 1, 1) := by decide +kernel
theorem dX11_run_50 : decode cX11_run 50 = .ok (.iconst (-1), 1) := by decide +kernel
theorem dX11_run_51 : decode cX11_run 51 = .ok (.invokevirtual 82, 3) := by decide +kernel
theorem dX11_run_54 : decode cX11_run 54 = .ok (.ireturn, 1) := by decide +kernel
theorem dX11_run_55 : decode cX11_run 55 = .ok (.aload_n 0, 1) := by decide +kernel
theorem dX11_run_56 : decode cX11_run 56 = .ok (.iload_n 3, 1) := by decide +kernel
theorem dX11_run_57 : decode cX11_run 57 = .ok (.iload 4, 2) := by decide +kernel
theorem dX11_run_59 : decode cX11_run 59 = .ok (.iload_n 2, 1) := by decide +kernel
theorem dX11_run_60 : decode cX11_run 60 = .ok (.invokestatic 158, 3) := by decide +kernel
theorem dX11_run_63 : decode cX11_run 63 = .ok (.invokevirtual 114, 3) := by decide +kernel
theorem dX11_run_66 : decode cX11_run 66 = .ok (.ireturn, 1) := by decide +kernel
set_option maxRecDepth 20000 in
theorem ggX11_agree_X11_lacks : GoodIn wsX11_agree wsX11_lacks := goodIn_r _ [6, 1, 61, 62, 63, 64, 65, 66, 67, 68, 69, 70, 71, 72, 73, 74, 75] (by decide +kernel) (by decide +kernel)
set_option maxRecDepth 20000 in
theorem gX11_agree_X11_lacks : GoodIn wsX11_agree (wsV RX11 121 RX11 yX11_lacks wsX11_lacks) := goodIn_app (goodIn_of _ (by decide +kernel)) ggX11_agree_X11_lacks
set_option maxRecDepth 20000 in
theorem ggX11_agree_X11_refused : GoodIn wsX11_agree wsX11_refused := goodIn_r _ [10, 11, 61, 62, 63, 64, 65, 66, 67, 68, 69, 70, 71, 72] (by decide +kernel) (by decide +kernel)
set_option maxRecDepth 20000 in
theorem gX11_agree_X11_refused : GoodIn wsX11_agree (wsV RX11 82 RX11 yX11_refused wsX11_refused) := goodIn_app (goodIn_of _ (by decide +kernel)) ggX11_agree_X11_refused
set_option maxRecDepth 20000 in
theorem ggX11_agree_X9_row : GoodIn wsX11_agree wsX9_row := goodIn_r _ [16, 17, 18, 5, 19, 73, 74, 75] (by decide +kernel) (by decide +kernel)
set_option maxRecDepth 20000 in
theorem gX11_agree_X9_row : GoodIn wsX11_agree (wsV RX11 124 RX9 yX9_row wsX9_row) := goodIn_app (goodIn_of _ (by decide +kernel)) ggX11_agree_X9_row
set_option maxRecDepth 20000 in
theorem ggX11_agree_X9_steps : GoodIn wsX11_agree wsX9_steps := goodIn_r _ [23, 24, 18, 5, 19, 73, 74, 75] (by decide +kernel) (by decide +kernel)
set_option maxRecDepth 20000 in
theorem gX11_agree_X9_steps : GoodIn wsX11_agree (wsV RX11 127 RX9 yX9_steps wsX9_steps) := goodIn_app (goodIn_of _ (by decide +kernel)) ggX11_agree_X9_steps
set_option maxRecDepth 20000 in
theorem ggX11_agree_X8_layersAlike : GoodIn wsX11_agree wsX8_layersAlike := goodIn_r _ [28, 29, 30, 27, 31, 32, 33, 34, 35, 36, 37, 38, 39, 40, 41, 42, 43, 44, 45, 46, 47, 48, 49, 50, 51, 52, 53, 54, 55, 56] (by decide +kernel) (by decide +kernel)
set_option maxRecDepth 20000 in
theorem gX11_agree_X8_layersAlike : GoodIn wsX11_agree (va_wsS RX11 161 yX8_layersAlike wsX8_layersAlike) := goodIn_app (goodIn_of _ (by decide +kernel)) ggX11_agree_X8_layersAlike
set_option maxRecDepth 20000 in
theorem ggX11_agree_X11_granted : GoodIn wsX11_agree wsX11_granted := goodIn_r _ [60, 11, 61, 62, 63, 64, 65, 66, 67, 68, 69, 70, 71, 72] (by decide +kernel) (by decide +kernel)
set_option maxRecDepth 20000 in
theorem gX11_agree_X11_granted : GoodIn wsX11_agree (wsV RX11 114 RX11 yX11_granted wsX11_granted) := goodIn_app (goodIn_of _ (by decide +kernel)) ggX11_agree_X11_granted
theorem dX11_agree_0 : decode cX11_agree 0 = .ok (.aload_n 0, 1) := by decide +kernel
theorem dX11_agree_1 : decode cX11_agree 1 = .ok (.iload_n 1, 1) := by decide +kernel
theorem dX11_agree_2 : decode cX11_agree 2 = .ok (.invokevirtual 121, 3) := by decide +kernel
theorem dX11_agree_5 : decode cX11_agree 5 = .ok (.ifCond .eq 10, 3) := by decide +kernel
theorem dX11_agree_8 : decode cX11_agree 8 = .ok (.aload_n 0, 1) := by decide +kernel
theorem dX11_agree_9 : decode cX11_agree 9 = .ok (.iconst 1, 1) := by decide +kernel
theorem dX11_agree_10 : decode cX11_agree 10 = .ok (.iconst (-1), 1) := by decide +kernel
theorem dX11_agree_11 : decode cX11_agree 11 = .ok (.invokevirtual 82, 3) := by decide +kernel
theorem dX11_agree_14 : decode cX11_agree 14 = .ok (.ireturn, 1) := by decide +kernel
theorem dX11_agree_15 : decode cX11_agree 15 = .ok (.iload_n 2, 1) := by decide +kernel
theorem dX11_agree_16 : decode cX11_agree 16 = .ok (.iconst 1, 1) := by decide +kernel
theorem dX11_agree_17 : decode cX11_agree 17 = .ok (.if_icmp .lt 9, 3) := by decide +kernel
theorem dX11_agree_20 : decode cX11_agree 20 = .ok (.iload_n 2, 1) := by decide +kernel
theorem dX11_agree_21 : decode cX11_agree 21 = .ok (.bipush 36, 2) := by decide +kernel
theorem dX11_agree_23 : decode cX11_agree 23 = .ok (.if_icmp .le 10, 3) := by decide +kernel
theorem dX11_agree_26 : decode cX11_agree 26 = .ok (.aload_n 0, 1) := by decide +kernel
theorem dX11_agree_27 : decode cX11_agree 27 = .ok (.iconst 2, 1) := by decide +kernel
theorem dX11_agree_28 : decode cX11_agree 28 = .ok (.iconst (-1), 1) := by decide +kernel
theorem dX11_agree_29 : decode cX11_agree 29 = .ok (.invokevirtual 82, 3) := by decide +kernel
theorem dX11_agree_32 : decode cX11_agree 32 = .ok (.ireturn, 1) := by decide +kernel
theorem dX11_agree_33 : decode cX11_agree 33 = .ok (.aload_n 0, 1) := by decide +kernel
theorem dX11_agree_34 : decode cX11_agree 34 = .ok (.aload_n 0, 1) := by decide +kernel
theorem dX11_agree_35 : decode cX11_agree 35 = .ok (.getfield 28, 3) := by decide +kernel
theorem dX11_agree_38 : decode cX11_agree 38 = .ok (.iload_n 1, 1) := by decide +kernel
theorem dX11_agree_39 : decode cX11_agree 39 = .ok (.invokevirtual 124, 3) := by decide +kernel
theorem dX11_agree_42 : decode cX11_agree 42 = .ok (.aload_n 0, 1) := by decide +kernel
theorem dX11_agree_43 : decode cX11_agree 43 = .ok (.getfield 28, 3) := by decide +kernel
theorem dX11_agree_46 : decode cX11_agree 46 = .ok (.iload_n 1, 1) := by decide +kernel
theorem dX11_agree_47 : decode cX11_agree 47 = .ok (.invokevirtual 127, 3) := by decide +kernel
theorem dX11_agree_50 : decode cX11_agree 50 = .ok (.iload_n 2, 1) := by decide +kernel
theorem dX11_agree_51 : decode cX11_agree 51 = .ok (.invokestatic 161, 3) := by decide +kernel
theorem dX11_agree_54 : decode cX11_agree 54 = .ok (.invokevirtual 114, 3) := by decide +kernel
theorem dX11_agree_57 : decode cX11_agree 57 = .ok (.ireturn, 1) := by decide +kernel
set_option maxRecDepth 20000 in
theorem ggX11_energy_X11_lacks : GoodIn wsX11_energy wsX11_lacks := goodIn_r _ [8, 3, 53, 54, 55, 56, 57, 58, 59, 60, 61, 62, 63, 64, 65, 66, 67] (by decide +kernel) (by decide +kernel)
set_option maxRecDepth 20000 in
theorem gX11_energy_X11_lacks : GoodIn wsX11_energy (wsV RX11 121 RX11 yX11_lacks wsX11_lacks) := goodIn_app (goodIn_of _ (by decide +kernel)) ggX11_energy_X11_lacks
set_option maxRecDepth 20000 in
theorem ggX11_energy_X11_refused : GoodIn wsX11_energy wsX11_refused := goodIn_r _ [12, 13, 53, 54, 55, 56, 57, 58, 59, 60, 61, 62, 63, 64] (by decide +kernel) (by decide +kernel)
set_option maxRecDepth 20000 in
theorem gX11_energy_X11_refused : GoodIn wsX11_energy (wsV RX11 82 RX11 yX11_refused wsX11_refused) := goodIn_app (goodIn_of _ (by decide +kernel)) ggX11_energy_X11_refused
set_option maxRecDepth 20000 in
theorem ggX11_energy_X9_row : GoodIn wsX11_energy wsX9_row := goodIn_r _ [18, 19, 20, 7, 21, 65, 66, 67] (by decide +kernel) (by decide +kernel)
set_option maxRecDepth 20000 in
theorem gX11_energy_X9_row : GoodIn wsX11_energy (wsV RX11 124 RX9 yX9_row wsX9_row) := goodIn_app (goodIn_of _ (by decide +kernel)) ggX11_energy_X9_row
set_option maxRecDepth 20000 in
theorem ggX11_energy_X9_steps : GoodIn wsX11_energy wsX9_steps := goodIn_r _ [25, 26, 20, 7, 21, 65, 66, 67] (by decide +kernel) (by decide +kernel)
set_option maxRecDepth 20000 in
theorem gX11_energy_X9_steps : GoodIn wsX11_energy (wsV RX11 127 RX9 yX9_steps wsX9_steps) := goodIn_app (goodIn_of _ (by decide +kernel)) ggX11_energy_X9_steps
set_option maxRecDepth 20000 in
theorem ggX11_energy_X4_energyOf : GoodIn wsX11_energy wsX4_energyOf := goodIn_r _ [31, 32, 33, 34, 35, 36, 37, 38, 39, 40, 30, 41, 42, 43, 44, 45, 46, 47, 48, 68, 69, 70, 71, 72, 73, 74, 75, 76, 77, 78, 79, 80, 81] (by decide +kernel) (by decide +kernel)
set_option maxRecDepth 20000 in
theorem gX11_energy_X4_energyOf : GoodIn wsX11_energy (wsV RX11 169 RX4 yX4_energyOf wsX4_energyOf) := goodIn_app (goodIn_of _ (by decide +kernel)) ggX11_energy_X4_energyOf
set_option maxRecDepth 20000 in
theorem ggX11_energy_X11_granted : GoodIn wsX11_energy wsX11_granted := goodIn_r _ [52, 13, 53, 54, 55, 56, 57, 58, 59, 60, 61, 62, 63, 64] (by decide +kernel) (by decide +kernel)
set_option maxRecDepth 20000 in
theorem gX11_energy_X11_granted : GoodIn wsX11_energy (wsV RX11 114 RX11 yX11_granted wsX11_granted) := goodIn_app (goodIn_of _ (by decide +kernel)) ggX11_energy_X11_granted
theorem dX11_energy_0 : decode cX11_energy 0 = .ok (.aload_n 0, 1) := by decide +kernel
theorem dX11_energy_1 : decode cX11_energy 1 = .ok (.iload_n 1, 1) := by decide +kernel
theorem dX11_energy_2 : decode cX11_energy 2 = .ok (.invokevirtual 121, 3) := by decide +kernel
theorem dX11_energy_5 : decode cX11_energy 5 = .ok (.ifCond .eq 11, 3) := by decide +kernel
theorem dX11_energy_8 : decode cX11_energy 8 = .ok (.aload_n 0, 1) := by decide +kernel
theorem dX11_energy_9 : decode cX11_energy 9 = .ok (.iconst 1, 1) := by decide +kernel
theorem dX11_energy_10 : decode cX11_energy 10 = .ok (.ldc 168, 2) := by decide +kernel
theorem dX11_energy_12 : decode cX11_energy 12 = .ok (.invokevirtual 82, 3) := by decide +kernel
theorem dX11_energy_15 : decode cX11_energy 15 = .ok (.ireturn, 1) := by decide +kernel
theorem dX11_energy_16 : decode cX11_energy 16 = .ok (.aload_n 0, 1) := by decide +kernel
theorem dX11_energy_17 : decode cX11_energy 17 = .ok (.aload_n 0, 1) := by decide +kernel
theorem dX11_energy_18 : decode cX11_energy 18 = .ok (.getfield 63, 3) := by decide +kernel
theorem dX11_energy_21 : decode cX11_energy 21 = .ok (.aload_n 0, 1) := by decide +kernel
theorem dX11_energy_22 : decode cX11_energy 22 = .ok (.getfield 28, 3) := by decide +kernel
theorem dX11_energy_25 : decode cX11_energy 25 = .ok (.iload_n 1, 1) := by decide +kernel
theorem dX11_energy_26 : decode cX11_energy 26 = .ok (.invokevirtual 124, 3) := by decide +kernel
theorem dX11_energy_29 : decode cX11_energy 29 = .ok (.aload_n 0, 1) := by decide +kernel
theorem dX11_energy_30 : decode cX11_energy 30 = .ok (.getfield 28, 3) := by decide +kernel
theorem dX11_energy_33 : decode cX11_energy 33 = .ok (.iload_n 1, 1) := by decide +kernel
theorem dX11_energy_34 : decode cX11_energy 34 = .ok (.invokevirtual 127, 3) := by decide +kernel
theorem dX11_energy_37 : decode cX11_energy 37 = .ok (.invokevirtual 169, 3) := by decide +kernel
theorem dX11_energy_40 : decode cX11_energy 40 = .ok (.invokevirtual 114, 3) := by decide +kernel
theorem dX11_energy_43 : decode cX11_energy 43 = .ok (.ireturn, 1) := by decide +kernel
set_option maxRecDepth 20000 in
theorem ggX11_calmest_X11_refused : GoodIn wsX11_calmest wsX11_refused := goodIn_r _ [7, 8, 48, 49, 50, 51, 52, 53, 54, 55, 56, 57, 58, 59] (by decide +kernel) (by decide +kernel)
set_option maxRecDepth 20000 in
theorem gX11_calmest_X11_refused : GoodIn wsX11_calmest (wsV RX11 82 RX11 yX11_refused wsX11_refused) := goodIn_app (goodIn_of _ (by decide +kernel)) ggX11_calmest_X11_refused
set_option maxRecDepth 20000 in
theorem ggX11_calmest_X9_row : GoodIn wsX11_calmest wsX9_row := goodIn_r _ [13, 14, 15, 6, 16, 74, 75, 76] (by decide +kernel) (by decide +kernel)
set_option maxRecDepth 20000 in
theorem gX11_calmest_X9_row : GoodIn wsX11_calmest (wsV RX11 124 RX9 yX9_row wsX9_row) := goodIn_app (goodIn_of _ (by decide +kernel)) ggX11_calmest_X9_row
set_option maxRecDepth 20000 in
theorem ggX11_calmest_X9_steps : GoodIn wsX11_calmest wsX9_steps := goodIn_r _ [20, 21, 15, 6, 16, 74, 75, 76] (by decide +kernel) (by decide +kernel)
set_option maxRecDepth 20000 in
theorem gX11_calmest_X9_steps : GoodIn wsX11_calmest (wsV RX11 127 RX9 yX9_steps wsX9_steps) := goodIn_app (goodIn_of _ (by decide +kernel)) ggX11_calmest_X9_steps
set_option maxRecDepth 20000 in
theorem ggX11_calmest_X4_energyOf : GoodIn wsX11_calmest wsX4_energyOf := goodIn_r _ [26, 27, 28, 29, 30, 31, 32, 33, 34, 35, 25, 36, 37, 38, 39, 40, 41, 42, 43, 60, 61, 62, 63, 64, 65, 66, 67, 68, 69, 70, 71, 72, 73] (by decide +kernel) (by decide +kernel)
set_option maxRecDepth 20000 in
theorem gX11_calmest_X4_energyOf : GoodIn wsX11_calmest (wsV RX11 169 RX4 yX4_energyOf wsX4_energyOf) := goodIn_app (goodIn_of _ (by decide +kernel)) ggX11_calmest_X4_energyOf
set_option maxRecDepth 20000 in
theorem ggX11_calmest_X11_granted : GoodIn wsX11_calmest wsX11_granted := goodIn_r _ [47, 8, 48, 49, 50, 51, 52, 53, 54, 55, 56, 57, 58, 59] (by decide +kernel) (by decide +kernel)
set_option maxRecDepth 20000 in
theorem gX11_calmest_X11_granted : GoodIn wsX11_calmest (wsV RX11 114 RX11 yX11_granted wsX11_granted) := goodIn_app (goodIn_of _ (by decide +kernel)) ggX11_calmest_X11_granted
theorem dX11_calmest_0 : decode cX11_calmest 0 = .ok (.aload_n 0, 1) := by decide +kernel
theorem dX11_calmest_1 : decode cX11_calmest 1 = .ok (.getfield 63, 3) := by decide +kernel
theorem dX11_calmest_4 : decode cX11_calmest 4 = .ok (.getfield 172, 3) := by decide +kernel
theorem dX11_calmest_7 : decode cX11_calmest 7 = .ok (.ifCond .ne 10, 3) := by decide +kernel
theorem dX11_calmest_10 : decode cX11_calmest 10 = .ok (.aload_n 0, 1) := by decide +kernel
theorem dX11_calmest_11 : decode cX11_calmest 11 = .ok (.iconst 1, 1) := by decide +kernel
theorem dX11_calmest_12 : decode cX11_calmest 12 = .ok (.iconst (-1), 1) := by decide +kernel
theorem dX11_calmest_13 : decode cX11_calmest 13 = .ok (.invokevirtual 82, 3) := by decide +kernel
theorem dX11_calmest_16 : decode cX11_calmest 16 = .ok (.ireturn, 1) := by decide +kernel
theorem dX11_calmest_17 : decode cX11_calmest 17 = .ok (.iconst 0, 1) := by decide +kernel
theorem dX11_calmest_18 : decode cX11_calmest 18 = .ok (.istore_n 1, 1) := by decide +kernel
theorem dX11_calmest_19 : decode cX11_calmest 19 = .ok (.aload_n 0, 1) := by decide +kernel
theorem dX11_calmest_20 : decode cX11_calmest 20 = .ok (.getfield 63, 3) := by decide +kernel
theorem dX11_calmest_23 : decode cX11_calmest 23 = .ok (.aload_n 0, 1) := by decide +kernel
theorem dX11_calmest_24 : decode cX11_calmest 24 = .ok (.getfield 28, 3) := by decide +kernel
theorem dX11_calmest_27 : decode cX11_calmest 27 = .ok (.iconst 0, 1) := by decide +kernel
theorem dX11_calmest_28 : decode cX11_calmest 28 = .ok (.invokevirtual 124, 3) := by decide +kernel
theorem dX11_calmest_31 : decode cX11_calmest 31 = .ok (.aload_n 0, 1) := by decide +kernel
theorem dX11_calmest_32 : decode cX11_calmest 32 = .ok (.getfield 28, 3) := by decide +kernel
theorem dX11_calmest_35 : decode cX11_calmest 35 = .ok (.iconst 0, 1) := by decide +kernel
theorem dX11_calmest_36 : decode cX11_calmest 36 = .ok (.invokevirtual 127, 3) := by decide +kernel
theorem dX11_calmest_39 : decode cX11_calmest 39 = .ok (.invokevirtual 169, 3) := by decide +kernel
theorem dX11_calmest_42 : decode cX11_calmest 42 = .ok (.istore_n 2, 1) := by decide +kernel
theorem dX11_calmest_43 : decode cX11_calmest 43 = .ok (.iconst 1, 1) := by decide +kernel
theorem dX11_calmest_44 : decode cX11_calmest 44 = .ok (.istore_n 3, 1) := by decide +kernel
theorem dX11_calmest_45 : decode cX11_calmest 45 = .ok (.iload_n 3, 1) := by decide +kernel
theorem dX11_calmest_46 : decode cX11_calmest 46 = .ok (.aload_n 0, 1) := by decide +kernel
theorem dX11_calmest_47 : decode cX11_calmest 47 = .ok (.getfield 28, 3) := by decide +kernel
theorem dX11_calmest_50 : decode cX11_calmest 50 = .ok (.getfield 113, 3) := by decide +kernel
theorem dX11_calmest_53 : decode cX11_calmest 53 = .ok (.if_icmp .ge 63, 3) := by decide +kernel
theorem dX11_calmest_56 : decode cX11_calmest 56 = .ok (.aload_n 0, 1) := by decide +kernel
theorem dX11_calmest_57 : decode cX11_calmest 57 = .ok (.getfield 63, 3) := by decide +kernel
theorem dX11_calmest_60 : decode cX11_calmest 60 = .ok (.aload_n 0, 1) := by decide +kernel
theorem dX11_calmest_61 : decode cX11_calmest 61 = .ok (.getfield 28, 3) := by decide +kernel
theorem dX11_calmest_64 : decode cX11_calmest 64 = .ok (.iload_n 3, 1) := by decide +kernel
theorem dX11_calmest_65 : decode cX11_calmest 65 = .ok (.invokevirtual 124, 3) := by decide +kernel
theorem dX11_calmest_68 : decode cX11_calmest 68 = .ok (.aload_n 0, 1) := by decide +kernel
theorem dX11_calmest_69 : decode cX11_calmest 69 = .ok (.getfield 28, 3) := by decide +kernel
theorem dX11_calmest_72 : decode cX11_calmest 72 = .ok (.iload_n 3, 1) := by decide +kernel
theorem dX11_calmest_73 : decode cX11_calmest 73 = .ok (.invokevirtual 127, 3) := by decide +kernel
theorem dX11_calmest_76 : decode cX11_calmest 76 = .ok (.invokevirtual 169, 3) := by decide +kernel
theorem dX11_calmest_79 : decode cX11_calmest 79 = .ok (.istore 4, 2) := by decide +kernel
theorem dX11_calmest_81 : decode cX11_calmest 81 = .ok (.iload 4, 2) := by decide +kernel
theorem dX11_calmest_83 : decode cX11_calmest 83 = .ok (.aload_n 0, 1) := by decide +kernel
theorem dX11_calmest_84 : decode cX11_calmest 84 = .ok (.getfield 28, 3) := by decide +kernel
theorem dX11_calmest_87 : decode cX11_calmest 87 = .ok (.iload_n 1, 1) := by decide +kernel
theorem dX11_calmest_88 : decode cX11_calmest 88 = .ok (.invokevirtual 127, 3) := by decide +kernel
theorem dX11_calmest_91 : decode cX11_calmest 91 = .ok (.imul, 1) := by decide +kernel
theorem dX11_calmest_92 : decode cX11_calmest 92 = .ok (.iload_n 2, 1) := by decide +kernel
theorem dX11_calmest_93 : decode cX11_calmest 93 = .ok (.aload_n 0, 1) := by decide +kernel
theorem dX11_calmest_94 : decode cX11_calmest 94 = .ok (.getfield 28, 3) := by decide +kernel
theorem dX11_calmest_97 : decode cX11_calmest 97 = .ok (.iload_n 3, 1) := by decide +kernel
theorem dX11_calmest_98 : decode cX11_calmest 98 = .ok (.invokevirtual 127, 3) := by decide +kernel
theorem dX11_calmest_101 : decode cX11_calmest 101 = .ok (.imul, 1) := by decide +kernel
theorem dX11_calmest_102 : decode cX11_calmest 102 = .ok (.if_icmp .ge 8, 3) := by decide +kernel
theorem dX11_calmest_105 : decode cX11_calmest 105 = .ok (.iload_n 3, 1) := by decide +kernel
theorem dX11_calmest_106 : decode cX11_calmest 106 = .ok (.istore_n 1, 1) := by decide +kernel
theorem dX11_calmest_107 : decode cX11_calmest 107 = .ok (.iload 4, 2) := by decide +kernel
theorem dX11_calmest_109 : decode cX11_calmest 109 = .ok (.istore_n 2, 1) := by decide +kernel
theorem dX11_calmest_110 : decode cX11_calmest 110 = .ok (.iinc 3 1, 3) := by decide +kernel
theorem dX11_calmest_113 : decode cX11_calmest 113 = .ok (.goto (-68), 3) := by decide +kernel
theorem dX11_calmest_116 : decode cX11_calmest 116 = .ok (.aload_n 0, 1) := by decide +kernel
theorem dX11_calmest_117 : decode cX11_calmest 117 = .ok (.iload_n 1, 1) := by decide +kernel
theorem dX11_calmest_118 : decode cX11_calmest 118 = .ok (.invokevirtual 114, 3) := by decide +kernel
theorem dX11_calmest_121 : decode cX11_calmest 121 = .ok (.ireturn, 1) := by decide +kernel
set_option maxRecDepth 20000 in
theorem ggX11_out_X11_lacks : GoodIn wsX11_out wsX11_lacks := goodIn_r _ [7, 1, 76, 77, 78, 79, 80, 81, 82, 83, 84, 85, 86, 87, 88, 89, 90] (by decide +kernel) (by decide +kernel)
set_option maxRecDepth 20000 in
theorem gX11_out_X11_lacks : GoodIn wsX11_out (wsV RX11 121 RX11 yX11_lacks wsX11_lacks) := goodIn_app (goodIn_of _ (by decide +kernel)) ggX11_out_X11_lacks
set_option maxRecDepth 20000 in
theorem ggX11_out_X11_refused : GoodIn wsX11_out wsX11_refused := goodIn_r _ [11, 12, 76, 77, 78, 79, 80, 81, 82, 83, 84, 85, 86, 87] (by decide +kernel) (by decide +kernel)
set_option maxRecDepth 20000 in
theorem gX11_out_X11_refused : GoodIn wsX11_out (wsV RX11 82 RX11 yX11_refused wsX11_refused) := goodIn_app (goodIn_of _ (by decide +kernel)) ggX11_out_X11_refused
set_option maxRecDepth 20000 in
theorem ggX11_out_X9_row : GoodIn wsX11_out wsX9_row := goodIn_r _ [17, 18, 19, 6, 20, 88, 89, 90] (by decide +kernel) (by decide +kernel)
set_option maxRecDepth 20000 in
theorem gX11_out_X9_row : GoodIn wsX11_out (wsV RX11 124 RX9 yX9_row wsX9_row) := goodIn_app (goodIn_of _ (by decide +kernel)) ggX11_out_X9_row
set_option maxRecDepth 20000 in
theorem ggX11_out_X9_steps : GoodIn wsX11_out wsX9_steps := goodIn_r _ [24, 25, 19, 6, 20, 88, 89, 90] (by decide +kernel) (by decide +kernel)
set_option maxRecDepth 20000 in
theorem gX11_out_X9_steps : GoodIn wsX11_out (wsV RX11 127 RX9 yX9_steps wsX9_steps) := goodIn_app (goodIn_of _ (by decide +kernel)) ggX11_out_X9_steps
set_option maxRecDepth 20000 in
theorem ggX11_out_X8_repeatsAfter : GoodIn wsX11_out wsX8_repeatsAfter := goodIn_r _ [29, 30, 31, 28, 32, 33, 34, 35, 36, 37, 38, 39] (by decide +kernel) (by decide +kernel)
set_option maxRecDepth 20000 in
theorem gX11_out_X8_repeatsAfter : GoodIn wsX11_out (va_wsS RX11 130 yX8_repeatsAfter wsX8_repeatsAfter) := goodIn_app (goodIn_of _ (by decide +kernel)) ggX11_out_X8_repeatsAfter
set_option maxRecDepth 20000 in
theorem ggX11_out_X6_goesOut : GoodIn wsX11_out wsX6_goesOut := goodIn_r _ [44, 45, 46, 27, 28, 29, 30, 31, 32, 33, 34, 35, 36, 37, 38, 39, 47, 48, 49, 43, 50, 51, 19, 6, 20, 52, 53, 54, 55, 56, 57, 58, 59, 60, 61, 62, 63, 64, 65, 66, 67, 68, 69, 70, 71, 91, 92] (by decide +kernel) (by decide +kernel)
set_option maxRecDepth 20000 in
theorem gX11_out_X6_goesOut : GoodIn wsX11_out (wsV RX11 176 RX6 yX6_goesOut wsX6_goesOut) := goodIn_app (goodIn_of _ (by decide +kernel)) ggX11_out_X6_goesOut
set_option maxRecDepth 20000 in
theorem ggX11_out_X11_granted : GoodIn wsX11_out wsX11_granted := goodIn_r _ [75, 12, 76, 77, 78, 79, 80, 81, 82, 83, 84, 85, 86, 87] (by decide +kernel) (by decide +kernel)
set_option maxRecDepth 20000 in
theorem gX11_out_X11_granted : GoodIn wsX11_out (wsV RX11 114 RX11 yX11_granted wsX11_granted) := goodIn_app (goodIn_of _ (by decide +kernel)) ggX11_out_X11_granted
theorem dX11_out_0 : decode cX11_out 0 = .ok (.aload_n 0, 1) := by decide +kernel
theorem dX11_out_1 : decode cX11_out 1 = .ok (.iload_n 1, 1) := by decide +kernel
theorem dX11_out_2 : decode cX11_out 2 = .ok (.invokevirtual 121, 3) := by decide +kernel
theorem dX11_out_5 : decode cX11_out 5 = .ok (.ifCond .eq 10, 3) := by decide +kernel
theorem dX11_out_8 : decode cX11_out 8 = .ok (.aload_n 0, 1) := by decide +kernel
theorem dX11_out_9 : decode cX11_out 9 = .ok (.iconst 1, 1) := by decide +kernel
theorem dX11_out_10 : decode cX11_out 10 = .ok (.iconst (-1), 1) := by decide +kernel
theorem dX11_out_11 : decode cX11_out 11 = .ok (.invokevirtual 82, 3) := by decide +kernel
theorem dX11_out_14 : decode cX11_out 14 = .ok (.ireturn, 1) := by decide +kernel
theorem dX11_out_15 : decode cX11_out 15 = .ok (.aload_n 0, 1) := by decide +kernel
theorem dX11_out_16 : decode cX11_out 16 = .ok (.getfield 28, 3) := by decide +kernel
theorem dX11_out_19 : decode cX11_out 19 = .ok (.iload_n 1, 1) := by decide +kernel
theorem dX11_out_20 : decode cX11_out 20 = .ok (.invokevirtual 124, 3) := by decide +kernel
theorem dX11_out_23 : decode cX11_out 23 = .ok (.istore_n 3, 1) := by decide +kernel
theorem dX11_out_24 : decode cX11_out 24 = .ok (.aload_n 0, 1) := by decide +kernel
theorem dX11_out_25 : decode cX11_out 25 = .ok (.getfield 28, 3) := by decide +kernel
theorem dX11_out_28 : decode cX11_out 28 = .ok (.iload_n 1, 1) := by decide +kernel
theorem dX11_out_29 : decode cX11_out 29 = .ok (.invokevirtual 127, 3) := by decide +kernel
theorem dX11_out_32 : decode cX11_out 32 = .ok (.istore 4, 2) := by decide +kernel
theorem dX11_out_34 : decode cX11_out 34 = .ok (.iload_n 2, 1) := by decide +kernel
theorem dX11_out_35 : decode cX11_out 35 = .ok (.ifCond .lt 13, 3) := by decide +kernel
theorem dX11_out_38 : decode cX11_out 38 = .ok (.iload_n 2, 1) := by decide +kernel
theorem dX11_out_39 : decode cX11_out 39 = .ok (.iload_n 3, 1) := by decide +kernel
theorem dX11_out_40 : decode cX11_out 40 = .ok (.iload 4, 2) := by decide +kernel
theorem dX11_out_42 : decode cX11_out 42 = .ok (.invokestatic 130, 3) := by decide +kernel
theorem dX11_out_45 : decode cX11_out 45 = .ok (.if_icmp .lt 10, 3) := by decide +kernel
theorem dX11_out_48 : decode cX11_out 48 = .ok (.aload_n 0, 1) := by decide +kernel
theorem dX11_out_49 : decode cX11_out 49 = .ok (.iconst 2, 1) := by decide +kernel
theorem dX11_out_50 : decode cX11_out 50 = .ok (.iconst (-1), 1) := by decide +kernel
theorem dX11_out_51 : decode cX11_out 51 = .ok (.invokevirtual 82, 3) := by decide +kernel
theorem dX11_out_54 : decode cX11_out 54 = .ok (.ireturn, 1) := by decide +kernel
theorem dX11_out_55 : decode cX11_out 55 = .ok (.aload_n 0, 1) := by decide +kernel
theorem dX11_out_56 : decode cX11_out 56 = .ok (.aload_n 0, 1) := by decide +kernel
theorem dX11_out_57 : decode cX11_out 57 = .ok (.getfield 49, 3) := by decide +kernel
theorem dX11_out_60 : decode cX11_out 60 = .ok (.iload_n 3, 1) := by decide +kernel
theorem dX11_out_61 : decode cX11_out 61 = .ok (.iload 4, 2) := by decide +kernel
theorem dX11_out_63 : decode cX11_out 63 = .ok (.iload_n 2, 1) := by decide +kernel
theorem dX11_out_64 : decode cX11_out 64 = .ok (.invokevirtual 176, 3) := by decide +kernel
theorem dX11_out_67 : decode cX11_out 67 = .ok (.ifCond .eq 7, 3) := by decide +kernel
theorem dX11_out_70 : decode cX11_out 70 = .ok (.iconst 1, 1) := by decide +kernel
theorem dX11_out_71 : decode cX11_out 71 = .ok (.goto 4, 3) := by decide +kernel
theorem dX11_out_74 : decode cX11_out 74 = .ok (.iconst 0, 1) := by decide +kernel
theorem dX11_out_75 : decode cX11_out 75 = .ok (.invokevirtual 114, 3) := by decide +kernel
theorem dX11_out_78 : decode cX11_out 78 = .ok (.ireturn, 1) := by decide +kernel
set_option maxRecDepth 20000 in
theorem ggX11_outs_X11_lacks : GoodIn wsX11_outs wsX11_lacks := goodIn_r _ [7, 1, 76, 77, 78, 79, 80, 81, 82, 83, 84, 85, 86, 87, 88, 89, 90] (by decide +kernel) (by decide +kernel)
set_option maxRecDepth 20000 in
theorem gX11_outs_X11_lacks : GoodIn wsX11_outs (wsV RX11 121 RX11 yX11_lacks wsX11_lacks) := goodIn_app (goodIn_of _ (by decide +kernel)) ggX11_outs_X11_lacks
set_option maxRecDepth 20000 in
theorem ggX11_outs_X11_refused : GoodIn wsX11_outs wsX11_refused := goodIn_r _ [11, 12, 76, 77, 78, 79, 80, 81, 82, 83, 84, 85, 86, 87] (by decide +kernel) (by decide +kernel)
set_option maxRecDepth 20000 in
theorem gX11_outs_X11_refused : GoodIn wsX11_outs (wsV RX11 82 RX11 yX11_refused wsX11_refused) := goodIn_app (goodIn_of _ (by decide +kernel)) ggX11_outs_X11_refused
set_option maxRecDepth 20000 in
theorem ggX11_outs_X9_row : GoodIn wsX11_outs wsX9_row := goodIn_r _ [17, 18, 19, 6, 20, 88, 89, 90] (by decide +kernel) (by decide +kernel)
set_option maxRecDepth 20000 in
theorem gX11_outs_X9_row : GoodIn wsX11_outs (wsV RX11 124 RX9 yX9_row wsX9_row) := goodIn_app (goodIn_of _ (by decide +kernel)) ggX11_outs_X9_row
set_option maxRecDepth 20000 in
theorem ggX11_outs_X9_steps : GoodIn wsX11_outs wsX9_steps := goodIn_r _ [24, 25, 19, 6, 20, 88, 89, 90] (by decide +kernel) (by decide +kernel)
set_option maxRecDepth 20000 in
theorem gX11_outs_X9_steps : GoodIn wsX11_outs (wsV RX11 127 RX9 yX9_steps wsX9_steps) := goodIn_app (goodIn_of _ (by decide +kernel)) ggX11_outs_X9_steps
set_option maxRecDepth 20000 in
theorem ggX11_outs_X8_repeatsAfter : GoodIn wsX11_outs wsX8_repeatsAfter := goodIn_r _ [29, 30, 31, 28, 32, 33, 34, 35, 36, 37, 38, 39] (by decide +kernel) (by decide +kernel)
set_option maxRecDepth 20000 in
theorem gX11_outs_X8_repeatsAfter : GoodIn wsX11_outs (va_wsS RX11 130 yX8_repeatsAfter wsX8_repeatsAfter) := goodIn_app (goodIn_of _ (by decide +kernel)) ggX11_outs_X8_repeatsAfter
set_option maxRecDepth 20000 in
theorem ggX11_outs_X6_goesOut : GoodIn wsX11_outs wsX6_goesOut := goodIn_r _ [44, 45, 46, 27, 28, 29, 30, 31, 32, 33, 34, 35, 36, 37, 38, 39, 47, 48, 49, 43, 50, 51, 19, 6, 20, 52, 53, 54, 55, 56, 57, 58, 59, 60, 61, 62, 63, 64, 65, 66, 67, 68, 69, 70, 71, 91, 92] (by decide +kernel) (by decide +kernel)
set_option maxRecDepth 20000 in
theorem gX11_outs_X6_goesOut : GoodIn wsX11_outs (wsV RX11 176 RX6 yX6_goesOut wsX6_goesOut) := goodIn_app (goodIn_of _ (by decide +kernel)) ggX11_outs_X6_goesOut
set_option maxRecDepth 20000 in
theorem ggX11_outs_X11_granted : GoodIn wsX11_outs wsX11_granted := goodIn_r _ [75, 12, 76, 77, 78, 79, 80, 81, 82, 83, 84, 85, 86, 87] (by decide +kernel) (by decide +kernel)
set_option maxRecDepth 20000 in
theorem gX11_outs_X11_granted : GoodIn wsX11_outs (wsV RX11 114 RX11 yX11_granted wsX11_granted) := goodIn_app (goodIn_of _ (by decide +kernel)) ggX11_outs_X11_granted
theorem dX11_outs_0 : decode cX11_outs 0 = .ok (.aload_n 0, 1) := by decide +kernel
theorem dX11_outs_1 : decode cX11_outs 1 = .ok (.iload_n 1, 1) := by decide +kernel
theorem dX11_outs_2 : decode cX11_outs 2 = .ok (.invokevirtual 121, 3) := by decide +kernel
theorem dX11_outs_5 : decode cX11_outs 5 = .ok (.ifCond .eq 10, 3) := by decide +kernel
theorem dX11_outs_8 : decode cX11_outs 8 = .ok (.aload_n 0, 1) := by decide +kernel
theorem dX11_outs_9 : decode cX11_outs 9 = .ok (.iconst 1, 1) := by decide +kernel
theorem dX11_outs_10 : decode cX11_outs 10 = .ok (.iconst (-1), 1) := by decide +kernel
theorem dX11_outs_11 : decode cX11_outs 11 = .ok (.invokevirtual 82, 3) := by decide +kernel
theorem dX11_outs_14 : decode cX11_outs 14 = .ok (.ireturn, 1) := by decide +kernel
theorem dX11_outs_15 : decode cX11_outs 15 = .ok (.aload_n 0, 1) := by decide +kernel
theorem dX11_outs_16 : decode cX11_outs 16 = .ok (.getfield 28, 3) := by decide +kernel
theorem dX11_outs_19 : decode cX11_outs 19 = .ok (.iload_n 1, 1) := by decide +kernel
theorem dX11_outs_20 : decode cX11_outs 20 = .ok (.invokevirtual 124, 3) := by decide +kernel
theorem dX11_outs_23 : decode cX11_outs 23 = .ok (.istore_n 2, 1) := by decide +kernel
theorem dX11_outs_24 : decode cX11_outs 24 = .ok (.aload_n 0, 1) := by decide +kernel
theorem dX11_outs_25 : decode cX11_outs 25 = .ok (.getfield 28, 3) := by decide +kernel
theorem dX11_outs_28 : decode cX11_outs 28 = .ok (.iload_n 1, 1) := by decide +kernel
theorem dX11_outs_29 : decode cX11_outs 29 = .ok (.invokevirtual 127, 3) := by decide +kernel
theorem dX11_outs_32 : decode cX11_outs 32 = .ok (.istore_n 3, 1) := by decide +kernel
theorem dX11_outs_33 : decode cX11_outs 33 = .ok (.iconst 0, 1) := by decide +kernel
theorem dX11_outs_34 : decode cX11_outs 34 = .ok (.istore 4, 2) := by decide +kernel
theorem dX11_outs_36 : decode cX11_outs 36 = .ok (.iconst 0, 1) := by decide +kernel
theorem dX11_outs_37 : decode cX11_outs 37 = .ok (.istore 5, 2) := by decide +kernel
theorem dX11_outs_39 : decode cX11_outs 39 = .ok (.iload 5, 2) := by decide +kernel
theorem dX11_outs_41 : decode cX11_outs 41 = .ok (.iload_n 2, 1) := by decide +kernel
theorem dX11_outs_42 : decode cX11_outs 42 = .ok (.iload_n 3, 1) := by decide +kernel
theorem dX11_outs_43 : decode cX11_outs 43 = .ok (.invokestatic 130, 3) := by decide +kernel
theorem dX11_outs_46 : decode cX11_outs 46 = .ok (.if_icmp .ge 33, 3) := by decide +kernel
theorem dX11_outs_49 : decode cX11_outs 49 = .ok (.iload 4, 2) := by decide +kernel
theorem dX11_outs_51 : decode cX11_outs 51 = .ok (.aload_n 0, 1) := by decide +kernel
theorem dX11_outs_52 : decode cX11_outs 52 = .ok (.getfield 49, 3) := by decide +kernel
theorem dX11_outs_55 : decode cX11_outs 55 = .ok (.iload_n 2, 1) := by decide +kernel
theorem dX11_outs_56 : decode cX11_outs 56 = .ok (.iload_n 3, 1) := by decide +kernel
theorem dX11_outs_57 : decode cX11_outs 57 = .ok (.iload 5, 2) := by decide +kernel
theorem dX11_outs_59 : decode cX11_outs 59 = .ok (.invokevirtual 176, 3) := by decide +kernel
theorem dX11_outs_62 : decode cX11_outs 62 = .ok (.ifCond .eq 7, 3) := by decide +kernel
theorem dX11_outs_65 : decode cX11_outs 65 = .ok (.iconst 1, 1) := by decide +kernel
theorem dX11_outs_66 : decode cX11_outs 66 = .ok (.goto 4, 3) := by decide +kernel
theorem dX11_outs_69 : decode cX11_outs 69 = .ok (.iconst 0, 1) := by decide +kernel
theorem dX11_outs_70 : decode cX11_outs 70 = .ok (.iadd, 1) := by decide +kernel
theorem dX11_outs_71 : decode cX11_outs 71 = .ok (.istore 4, 2) := by decide +kernel
theorem dX11_outs_73 : decode cX11_outs 73 = .ok (.iinc 5 1, 3) := by decide +kernel
theorem dX11_outs_76 : decode cX11_outs 76 = .ok (.goto (-37), 3) := by decide +kernel
theorem dX11_outs_79 : decode cX11_outs 79 = .ok (.aload_n 0, 1) := by decide +kernel
theorem dX11_outs_80 : decode cX11_outs 80 = .ok (.iload 4, 2) := by decide +kernel
theorem dX11_outs_82 : decode cX11_outs 82 = .ok (.invokevirtual 114, 3) := by decide +kernel
theorem dX11_outs_85 : decode cX11_outs 85 = .ok (.ireturn, 1) := by decide +kernel
set_option maxRecDepth 20000 in
theorem ggX11_firstLine_X11_lacks : GoodIn wsX11_firstLine wsX11_lacks := goodIn_r _ [7, 1, 76, 77, 78, 79, 80, 81, 82, 83, 84, 85, 86, 87, 88, 89, 90] (by decide +kernel) (by decide +kernel)
set_option maxRecDepth 20000 in
theorem gX11_firstLine_X11_lacks : GoodIn wsX11_firstLine (wsV RX11 121 RX11 yX11_lacks wsX11_lacks) := goodIn_app (goodIn_of _ (by decide +kernel)) ggX11_firstLine_X11_lacks
set_option maxRecDepth 20000 in
theorem ggX11_firstLine_X11_refused : GoodIn wsX11_firstLine wsX11_refused := goodIn_r _ [11, 12, 76, 77, 78, 79, 80, 81, 82, 83, 84, 85, 86, 87] (by decide +kernel) (by decide +kernel)
set_option maxRecDepth 20000 in
theorem gX11_firstLine_X11_refused : GoodIn wsX11_firstLine (wsV RX11 82 RX11 yX11_refused wsX11_refused) := goodIn_app (goodIn_of _ (by decide +kernel)) ggX11_firstLine_X11_refused
set_option maxRecDepth 20000 in
theorem ggX11_firstLine_X9_row : GoodIn wsX11_firstLine wsX9_row := goodIn_r _ [17, 18, 19, 6, 20, 88, 89, 90] (by decide +kernel) (by decide +kernel)
set_option maxRecDepth 20000 in
theorem gX11_firstLine_X9_row : GoodIn wsX11_firstLine (wsV RX11 124 RX9 yX9_row wsX9_row) := goodIn_app (goodIn_of _ (by decide +kernel)) ggX11_firstLine_X9_row
set_option maxRecDepth 20000 in
theorem ggX11_firstLine_X9_steps : GoodIn wsX11_firstLine wsX9_steps := goodIn_r _ [24, 25, 19, 6, 20, 88, 89, 90] (by decide +kernel) (by decide +kernel)
set_option maxRecDepth 20000 in
theorem gX11_firstLine_X9_steps : GoodIn wsX11_firstLine (wsV RX11 127 RX9 yX9_steps wsX9_steps) := goodIn_app (goodIn_of _ (by decide +kernel)) ggX11_firstLine_X9_steps
set_option maxRecDepth 20000 in
theorem ggX11_firstLine_X8_repeatsAfter : GoodIn wsX11_firstLine wsX8_repeatsAfter := goodIn_r _ [29, 30, 31, 28, 32, 33, 34, 35, 36, 37, 38, 39] (by decide +kernel) (by decide +kernel)
set_option maxRecDepth 20000 in
theorem gX11_firstLine_X8_repeatsAfter : GoodIn wsX11_firstLine (va_wsS RX11 130 yX8_repeatsAfter wsX8_repeatsAfter) := goodIn_app (goodIn_of _ (by decide +kernel)) ggX11_firstLine_X8_repeatsAfter
set_option maxRecDepth 20000 in
theorem ggX11_firstLine_X6_goesOut : GoodIn wsX11_firstLine wsX6_goesOut := goodIn_r _ [44, 45, 46, 27, 28, 29, 30, 31, 32, 33, 34, 35, 36, 37, 38, 39, 47, 48, 49, 43, 50, 51, 19, 6, 20, 52, 53, 54, 55, 56, 57, 58, 59, 60, 61, 62, 63, 64, 65, 66, 67, 68, 69, 70, 71, 91, 92] (by decide +kernel) (by decide +kernel)
set_option maxRecDepth 20000 in
theorem gX11_firstLine_X6_goesOut : GoodIn wsX11_firstLine (wsV RX11 176 RX6 yX6_goesOut wsX6_goesOut) := goodIn_app (goodIn_of _ (by decide +kernel)) ggX11_firstLine_X6_goesOut
set_option maxRecDepth 20000 in
theorem ggX11_firstLine_X11_granted : GoodIn wsX11_firstLine wsX11_granted := goodIn_r _ [75, 12, 76, 77, 78, 79, 80, 81, 82, 83, 84, 85, 86, 87] (by decide +kernel) (by decide +kernel)
set_option maxRecDepth 20000 in
theorem gX11_firstLine_X11_granted : GoodIn wsX11_firstLine (wsV RX11 114 RX11 yX11_granted wsX11_granted) := goodIn_app (goodIn_of _ (by decide +kernel)) ggX11_firstLine_X11_granted
theorem dX11_firstLine_0 : decode cX11_firstLine 0 = .ok (.aload_n 0, 1) := by decide +kernel
theorem dX11_firstLine_1 : decode cX11_firstLine 1 = .ok (.iload_n 1, 1) := by decide +kernel
theorem dX11_firstLine_2 : decode cX11_firstLine 2 = .ok (.invokevirtual 121, 3) := by decide +kernel
theorem dX11_firstLine_5 : decode cX11_firstLine 5 = .ok (.ifCond .eq 10, 3) := by decide +kernel
theorem dX11_firstLine_8 : decode cX11_firstLine 8 = .ok (.aload_n 0, 1) := by decide +kernel
theorem dX11_firstLine_9 : decode cX11_firstLine 9 = .ok (.iconst 1, 1) := by decide +kernel
theorem dX11_firstLine_10 : decode cX11_firstLine 10 = .ok (.iconst (-1), 1) := by decide +kernel
theorem dX11_firstLine_11 : decode cX11_firstLine 11 = .ok (.invokevirtual 82, 3) := by decide +kernel
theorem dX11_firstLine_14 : decode cX11_firstLine 14 = .ok (.ireturn, 1) := by decide +kernel
theorem dX11_firstLine_15 : decode cX11_firstLine 15 = .ok (.aload_n 0, 1) := by decide +kernel
theorem dX11_firstLine_16 : decode cX11_firstLine 16 = .ok (.getfield 28, 3) := by decide +kernel
theorem dX11_firstLine_19 : decode cX11_firstLine 19 = .ok (.iload_n 1, 1) := by decide +kernel
theorem dX11_firstLine_20 : decode cX11_firstLine 20 = .ok (.invokevirtual 124, 3) := by decide +kernel
theorem dX11_firstLine_23 : decode cX11_firstLine 23 = .ok (.istore_n 2, 1) := by decide +kernel
theorem dX11_firstLine_24 : decode cX11_firstLine 24 = .ok (.aload_n 0, 1) := by decide +kernel
theorem dX11_firstLine_25 : decode cX11_firstLine 25 = .ok (.getfield 28, 3) := by decide +kernel
theorem dX11_firstLine_28 : decode cX11_firstLine 28 = .ok (.iload_n 1, 1) := by decide +kernel
theorem dX11_firstLine_29 : decode cX11_firstLine 29 = .ok (.invokevirtual 127, 3) := by decide +kernel
theorem dX11_firstLine_32 : decode cX11_firstLine 32 = .ok (.istore_n 3, 1) := by decide +kernel
theorem dX11_firstLine_33 : decode cX11_firstLine 33 = .ok (.iconst 1, 1) := by decide +kernel
theorem dX11_firstLine_34 : decode cX11_firstLine 34 = .ok (.istore 4, 2) := by decide +kernel
theorem dX11_firstLine_36 : decode cX11_firstLine 36 = .ok (.iload 4, 2) := by decide +kernel
theorem dX11_firstLine_38 : decode cX11_firstLine 38 = .ok (.iload_n 2, 1) := by decide +kernel
theorem dX11_firstLine_39 : decode cX11_firstLine 39 = .ok (.iload_n 3, 1) := by decide +kernel
theorem dX11_firstLine_40 : decode cX11_firstLine 40 = .ok (.invokestatic 130, 3) := by decide +kernel
theorem dX11_firstLine_43 : decode cX11_firstLine 43 = .ok (.if_icmp .ge 30, 3) := by decide +kernel
theorem dX11_firstLine_46 : decode cX11_firstLine 46 = .ok (.aload_n 0, 1) := by decide +kernel
theorem dX11_firstLine_47 : decode cX11_firstLine 47 = .ok (.getfield 49, 3) := by decide +kernel
theorem dX11_firstLine_50 : decode cX11_firstLine 50 = .ok (.iload_n 2, 1) := by decide +kernel
theorem dX11_firstLine_51 : decode cX11_firstLine 51 = .ok (.iload_n 3, 1) := by decide +kernel
theorem dX11_firstLine_52 : decode cX11_firstLine 52 = .ok (.iload 4, 2) := by decide +kernel
theorem dX11_firstLine_54 : decode cX11_firstLine 54 = .ok (.invokevirtual 176, 3) := by decide +kernel
theorem dX11_firstLine_57 : decode cX11_firstLine 57 = .ok (.ifCond .ne 10, 3) := by decide +kernel
theorem dX11_firstLine_60 : decode cX11_firstLine 60 = .ok (.aload_n 0, 1) := by decide +kernel
theorem dX11_firstLine_61 : decode cX11_firstLine 61 = .ok (.iload 4, 2) := by decide +kernel
theorem dX11_firstLine_63 : decode cX11_firstLine 63 = .ok (.invokevirtual 114, 3) := by decide +kernel
theorem dX11_firstLine_66 : decode cX11_firstLine 66 = .ok (.ireturn, 1) := by decide +kernel
theorem dX11_firstLine_67 : decode cX11_firstLine 67 = .ok (.iinc 4 1, 3) := by decide +kernel
theorem dX11_firstLine_70 : decode cX11_firstLine 70 = .ok (.goto (-34), 3) := by decide +kernel
theorem dX11_firstLine_73 : decode cX11_firstLine 73 = .ok (.aload_n 0, 1) := by decide +kernel
theorem dX11_firstLine_74 : decode cX11_firstLine 74 = .ok (.bipush (-2), 2) := by decide +kernel
theorem dX11_firstLine_76 : decode cX11_firstLine 76 = .ok (.invokevirtual 114, 3) := by decide +kernel
theorem dX11_firstLine_79 : decode cX11_firstLine 79 = .ok (.ireturn, 1) := by decide +kernel
set_option maxRecDepth 20000 in
theorem ggX11_sameLines_X11_lacks : GoodIn wsX11_sameLines wsX11_lacks := goodIn_r _ [7, 1, 76, 77, 78, 79, 80, 81, 82, 83, 84, 85, 86, 87, 88, 89, 90] (by decide +kernel) (by decide +kernel)
set_option maxRecDepth 20000 in
theorem gX11_sameLines_X11_lacks : GoodIn wsX11_sameLines (wsV RX11 121 RX11 yX11_lacks wsX11_lacks) := goodIn_app (goodIn_of _ (by decide +kernel)) ggX11_sameLines_X11_lacks
set_option maxRecDepth 20000 in
theorem ggX11_sameLines_X11_refused : GoodIn wsX11_sameLines wsX11_refused := goodIn_r _ [11, 12, 76, 77, 78, 79, 80, 81, 82, 83, 84, 85, 86, 87] (by decide +kernel) (by decide +kernel)
set_option maxRecDepth 20000 in
theorem gX11_sameLines_X11_refused : GoodIn wsX11_sameLines (wsV RX11 82 RX11 yX11_refused wsX11_refused) := goodIn_app (goodIn_of _ (by decide +kernel)) ggX11_sameLines_X11_refused
set_option maxRecDepth 20000 in
theorem ggX11_sameLines_X9_row : GoodIn wsX11_sameLines wsX9_row := goodIn_r _ [17, 18, 19, 6, 20, 88, 89, 90] (by decide +kernel) (by decide +kernel)
set_option maxRecDepth 20000 in
theorem gX11_sameLines_X9_row : GoodIn wsX11_sameLines (wsV RX11 124 RX9 yX9_row wsX9_row) := goodIn_app (goodIn_of _ (by decide +kernel)) ggX11_sameLines_X9_row
set_option maxRecDepth 20000 in
theorem ggX11_sameLines_X9_steps : GoodIn wsX11_sameLines wsX9_steps := goodIn_r _ [24, 25, 19, 6, 20, 88, 89, 90] (by decide +kernel) (by decide +kernel)
set_option maxRecDepth 20000 in
theorem gX11_sameLines_X9_steps : GoodIn wsX11_sameLines (wsV RX11 127 RX9 yX9_steps wsX9_steps) := goodIn_app (goodIn_of _ (by decide +kernel)) ggX11_sameLines_X9_steps
set_option maxRecDepth 20000 in
theorem ggX11_sameLines_X8_repeatsAfter : GoodIn wsX11_sameLines wsX8_repeatsAfter := goodIn_r _ [29, 30, 31, 28, 32, 33, 34, 35, 36, 37, 38, 39] (by decide +kernel) (by decide +kernel)
set_option maxRecDepth 20000 in
theorem gX11_sameLines_X8_repeatsAfter : GoodIn wsX11_sameLines (va_wsS RX11 130 yX8_repeatsAfter wsX8_repeatsAfter) := goodIn_app (goodIn_of _ (by decide +kernel)) ggX11_sameLines_X8_repeatsAfter
set_option maxRecDepth 20000 in
theorem ggX11_sameLines_X6_goesOut : GoodIn wsX11_sameLines wsX6_goesOut := goodIn_r _ [44, 45, 46, 27, 28, 29, 30, 31, 32, 33, 34, 35, 36, 37, 38, 39, 47, 48, 49, 43, 50, 51, 19, 6, 20, 52, 53, 54, 55, 56, 57, 58, 59, 60, 61, 62, 63, 64, 65, 66, 67, 68, 69, 70, 71, 91, 92] (by decide +kernel) (by decide +kernel)
set_option maxRecDepth 20000 in
theorem gX11_sameLines_X6_goesOut : GoodIn wsX11_sameLines (wsV RX11 176 RX6 yX6_goesOut wsX6_goesOut) := goodIn_app (goodIn_of _ (by decide +kernel)) ggX11_sameLines_X6_goesOut
set_option maxRecDepth 20000 in
theorem ggX11_sameLines_X11_granted : GoodIn wsX11_sameLines wsX11_granted := goodIn_r _ [75, 12, 76, 77, 78, 79, 80, 81, 82, 83, 84, 85, 86, 87] (by decide +kernel) (by decide +kernel)
set_option maxRecDepth 20000 in
theorem gX11_sameLines_X11_granted : GoodIn wsX11_sameLines (wsV RX11 114 RX11 yX11_granted wsX11_granted) := goodIn_app (goodIn_of _ (by decide +kernel)) ggX11_sameLines_X11_granted
theorem dX11_sameLines_0 : decode cX11_sameLines 0 = .ok (.aload_n 0, 1) := by decide +kernel
theorem dX11_sameLines_1 : decode cX11_sameLines 1 = .ok (.iload_n 1, 1) := by decide +kernel
theorem dX11_sameLines_2 : decode cX11_sameLines 2 = .ok (.invokevirtual 121, 3) := by decide +kernel
theorem dX11_sameLines_5 : decode cX11_sameLines 5 = .ok (.ifCond .ne 11, 3) := by decide +kernel
theorem dX11_sameLines_8 : decode cX11_sameLines 8 = .ok (.aload_n 0, 1) := by decide +kernel
theorem dX11_sameLines_9 : decode cX11_sameLines 9 = .ok (.iload_n 2, 1) := by decide +kernel
theorem dX11_sameLines_10 : decode cX11_sameLines 10 = .ok (.invokevirtual 121, 3) := by decide +kernel
theorem dX11_sameLines_13 : decode cX11_sameLines 13 = .ok (.ifCond .eq 10, 3) := by decide +kernel
theorem dX11_sameLines_16 : decode cX11_sameLines 16 = .ok (.aload_n 0, 1) := by decide +kernel
theorem dX11_sameLines_17 : decode cX11_sameLines 17 = .ok (.iconst 1, 1) := by decide +kernel
theorem dX11_sameLines_18 : decode cX11_sameLines 18 = .ok (.iconst (-1), 1) := by decide +kernel
theorem dX11_sameLines_19 : decode cX11_sameLines 19 = .ok (.invokevirtual 82, 3) := by decide +kernel
theorem dX11_sameLines_22 : decode cX11_sameLines 22 = .ok (.ireturn, 1) := by decide +kernel
theorem dX11_sameLines_23 : decode cX11_sameLines 23 = .ok (.aload_n 0, 1) := by decide +kernel
theorem dX11_sameLines_24 : decode cX11_sameLines 24 = .ok (.getfield 28, 3) := by decide +kernel
theorem dX11_sameLines_27 : decode cX11_sameLines 27 = .ok (.iload_n 1, 1) := by decide +kernel
theorem dX11_sameLines_28 : decode cX11_sameLines 28 = .ok (.invokevirtual 124, 3) := by decide +kernel
theorem dX11_sameLines_31 : decode cX11_sameLines 31 = .ok (.aload_n 0, 1) := by decide +kernel
theorem dX11_sameLines_32 : decode cX11_sameLines 32 = .ok (.getfield 28, 3) := by decide +kernel
theorem dX11_sameLines_35 : decode cX11_sameLines 35 = .ok (.iload_n 1, 1) := by decide +kernel
theorem dX11_sameLines_36 : decode cX11_sameLines 36 = .ok (.invokevirtual 127, 3) := by decide +kernel
theorem dX11_sameLines_39 : decode cX11_sameLines 39 = .ok (.invokestatic 130, 3) := by decide +kernel
theorem dX11_sameLines_42 : decode cX11_sameLines 42 = .ok (.istore_n 3, 1) := by decide +kernel
theorem dX11_sameLines_43 : decode cX11_sameLines 43 = .ok (.iload_n 3, 1) := by decide +kernel
theorem dX11_sameLines_44 : decode cX11_sameLines 44 = .ok (.aload_n 0, 1) := by decide +kernel
theorem dX11_sameLines_45 : decode cX11_sameLines 45 = .ok (.getfield 28, 3) := by decide +kernel
theorem dX11_sameLines_48 : decode cX11_sameLines 48 = .ok (.iload_n 2, 1) := by decide +kernel
theorem dX11_sameLines_49 : decode cX11_sameLines 49 = .ok (.invokevirtual 124, 3) := by decide +kernel
theorem dX11_sameLines_52 : decode cX11_sameLines 52 = .ok (.aload_n 0, 1) := by decide +kernel
theorem dX11_sameLines_53 : decode cX11_sameLines 53 = .ok (.getfield 28, 3) := by decide +kernel
theorem dX11_sameLines_56 : decode cX11_sameLines 56 = .ok (.iload_n 2, 1) := by decide +kernel
theorem dX11_sameLines_57 : decode cX11_sameLines 57 = .ok (.invokevirtual 127, 3) := by decide +kernel
theorem dX11_sameLines_60 : decode cX11_sameLines 60 = .ok (.invokestatic 130, 3) := by decide +kernel
theorem dX11_sameLines_63 : decode cX11_sameLines 63 = .ok (.if_icmp .eq 10, 3) := by decide +kernel
theorem dX11_sameLines_66 : decode cX11_sameLines 66 = .ok (.aload_n 0, 1) := by decide +kernel
theorem dX11_sameLines_67 : decode cX11_sameLines 67 = .ok (.iconst 5, 1) := by decide +kernel
theorem dX11_sameLines_68 : decode cX11_sameLines 68 = .ok (.iconst (-1), 1) := by decide +kernel
theorem dX11_sameLines_69 : decode cX11_sameLines 69 = .ok (.invokevirtual 82, 3) := by decide +kernel
theorem dX11_sameLines_72 : decode cX11_sameLines 72 = .ok (.ireturn, 1) := by decide +kernel
theorem dX11_sameLines_73 : decode cX11_sameLines 73 = .ok (.iconst 0, 1) := by decide +kernel
theorem dX11_sameLines_74 : decode cX11_sameLines 74 = .ok (.istore 4, 2) := by decide +kernel
theorem dX11_sameLines_76 : decode cX11_sameLines 76 = .ok (.iload 4, 2) := by decide +kernel
theorem dX11_sameLines_78 : decode cX11_sameLines 78 = .ok (.iload_n 3, 1) := by decide +kernel
theorem dX11_sameLines_79 : decode cX11_sameLines 79 = .ok (.if_icmp .ge 76, 3) := by decide +kernel
theorem dX11_sameLines_82 : decode cX11_sameLines 82 = .ok (.aload_n 0, 1) := by decide +kernel
theorem dX11_sameLines_83 : decode cX11_sameLines 83 = .ok (.getfield 49, 3) := by decide +kernel
theorem dX11_sameLines_86 : decode cX11_sameLines 86 = .ok (.aload_n 0, 1) := by decide +kernel
theorem dX11_sameLines_87 : decode cX11_sameLines 87 = .ok (.getfield 28, 3) := by decide +kernel
theorem dX11_sameLines_90 : decode cX11_sameLines 90 = .ok (.iload_n 1, 1) := by decide +kernel
theorem dX11_sameLines_91 : decode cX11_sameLines 91 = .ok (.invokevirtual 124, 3) := by decide +kernel
theorem dX11_sameLines_94 : decode cX11_sameLines 94 = .ok (.aload_n 0, 1) := by decide +kernel
theorem dX11_sameLines_95 : decode cX11_sameLines 95 = .ok (.getfield 28, 3) := by decide +kernel
theorem dX11_sameLines_98 : decode cX11_sameLines 98 = .ok (.iload_n 1, 1) := by decide +kernel
theorem dX11_sameLines_99 : decode cX11_sameLines 99 = .ok (.invokevirtual 127, 3) := by decide +kernel
theorem dX11_sameLines_102 : decode cX11_sameLines 102 = .ok (.iload 4, 2) := by decide +kernel
theorem dX11_sameLines_104 : decode cX11_sameLines 104 = .ok (.invokevirtual 176, 3) := by decide +kernel
theorem dX11_sameLines_107 : decode cX11_sameLines 107 = .ok (.istore 5, 2) := by decide +kernel
theorem dX11_sameLines_109 : decode cX11_sameLines 109 = .ok (.aload_n 0, 1) := by decide +kernel
theorem dX11_sameLines_110 : decode cX11_sameLines 110 = .ok (.getfield 49, 3) := by decide +kernel
theorem dX11_sameLines_113 : decode cX11_sameLines 113 = .ok (.aload_n 0, 1) := by decide +kernel
theorem dX11_sameLines_114 : decode cX11_sameLines 114 = .ok (.getfield 28, 3) := by decide +kernel
theorem dX11_sameLines_117 : decode cX11_sameLines 117 = .ok (.iload_n 2, 1) := by decide +kernel
theorem dX11_sameLines_118 : decode cX11_sameLines 118 = .ok (.invokevirtual 124, 3) := by decide +kernel
theorem dX11_sameLines_121 : decode cX11_sameLines 121 = .ok (.aload_n 0, 1) := by decide +kernel
theorem dX11_sameLines_122 : decode cX11_sameLines 122 = .ok (.getfield 28, 3) := by decide +kernel
theorem dX11_sameLines_125 : decode cX11_sameLines 125 = .ok (.iload_n 2, 1) := by decide +kernel
theorem dX11_sameLines_126 : decode cX11_sameLines 126 = .ok (.invokevirtual 127, 3) := by decide +kernel
theorem dX11_sameLines_129 : decode cX11_sameLines 129 = .ok (.iload 4, 2) := by decide +kernel
theorem dX11_sameLines_131 : decode cX11_sameLines 131 = .ok (.invokevirtual 176, 3) := by decide +kernel
theorem dX11_sameLines_134 : decode cX11_sameLines 134 = .ok (.istore 6, 2) := by decide +kernel
theorem dX11_sameLines_136 : decode cX11_sameLines 136 = .ok (.iload 5, 2) := by decide +kernel
theorem dX11_sameLines_138 : decode cX11_sameLines 138 = .ok (.iload 6, 2) := by decide +kernel
theorem dX11_sameLines_140 : decode cX11_sameLines 140 = .ok (.if_icmp .eq 9, 3) := by decide +kernel
theorem dX11_sameLines_143 : decode cX11_sameLines 143 = .ok (.aload_n 0, 1) := by decide +kernel
theorem dX11_sameLines_144 : decode cX11_sameLines 144 = .ok (.iconst 0, 1) := by decide +kernel
theorem dX11_sameLines_145 : decode cX11_sameLines 145 = .ok (.invokevirtual 114, 3) := by decide +kernel
theorem dX11_sameLines_148 : decode cX11_sameLines 148 = .ok (.ireturn, 1) := by decide +kernel
theorem dX11_sameLines_149 : decode cX11_sameLines 149 = .ok (.iinc 4 1, 3) := by decide +kernel
theorem dX11_sameLines_152 : decode cX11_sameLines 152 = .ok (.goto (-76), 3) := by decide +kernel
theorem dX11_sameLines_155 : decode cX11_sameLines 155 = .ok (.aload_n 0, 1) := by decide +kernel
theorem dX11_sameLines_156 : decode cX11_sameLines 156 = .ok (.iconst 1, 1) := by decide +kernel
theorem dX11_sameLines_157 : decode cX11_sameLines 157 = .ok (.invokevirtual 114, 3) := by decide +kernel
theorem dX11_sameLines_160 : decode cX11_sameLines 160 = .ok (.ireturn, 1) := by decide +kernel
set_option maxRecDepth 20000 in
theorem ggX11_ground_X11_lacksGround : GoodIn wsX11_ground wsX11_lacksGround := goodIn_r _ [8, 3, 64, 65, 66, 67, 68, 69, 70, 71, 72, 73, 74, 75, 76, 77, 78, 79, 80, 81, 82, 83, 84, 85, 86, 87, 88, 89] (by decide +kernel) (by decide +kernel)
set_option maxRecDepth 20000 in
theorem gX11_ground_X11_lacksGround : GoodIn wsX11_ground (wsV RX11 180 RX11 yX11_lacksGround wsX11_lacksGround) := goodIn_app (goodIn_of _ (by decide +kernel)) ggX11_ground_X11_lacksGround
set_option maxRecDepth 20000 in
theorem ggX11_ground_X11_groundTrouble : GoodIn wsX11_ground wsX11_groundTrouble := goodIn_r _ [12, 3, 64, 65, 66, 67, 68, 69, 70, 71, 72, 73, 74, 75, 76, 77, 78, 79, 80, 81, 82, 83, 84, 85, 86, 87, 88, 89] (by decide +kernel) (by decide +kernel)
set_option maxRecDepth 20000 in
theorem gX11_ground_X11_groundTrouble : GoodIn wsX11_ground (wsV RX11 183 RX11 yX11_groundTrouble wsX11_groundTrouble) := goodIn_app (goodIn_of _ (by decide +kernel)) ggX11_ground_X11_groundTrouble
set_option maxRecDepth 20000 in
theorem ggX11_ground_X11_refused : GoodIn wsX11_ground wsX11_refused := goodIn_r _ [16, 17, 64, 65, 66, 67, 68, 69, 70, 71, 72, 73, 74, 75] (by decide +kernel) (by decide +kernel)
set_option maxRecDepth 20000 in
theorem gX11_ground_X11_refused : GoodIn wsX11_ground (wsV RX11 82 RX11 yX11_refused wsX11_refused) := goodIn_app (goodIn_of _ (by decide +kernel)) ggX11_ground_X11_refused
set_option maxRecDepth 20000 in
theorem ggX11_ground_X5_survey : GoodIn wsX11_ground wsX5_survey := goodIn_r _ [22, 23, 24, 25, 26, 27, 28, 29, 30, 31, 32, 33, 34, 35, 36, 37, 38, 39, 40, 41, 42, 43, 44, 45, 46, 47, 48, 7, 49, 90, 91, 92, 93, 94, 95, 96, 97, 98, 76, 77, 78, 79, 80, 81, 82, 83, 84, 85, 86, 87, 88, 89] (by decide +kernel) (by decide +kernel)
set_option maxRecDepth 20000 in
theorem gX11_ground_X5_survey : GoodIn wsX11_ground (wsV RX11 187 RX5 yX5_survey wsX5_survey) := goodIn_app (goodIn_of _ (by decide +kernel)) ggX11_ground_X5_survey
set_option maxRecDepth 20000 in
theorem ggX11_ground_X5_lowest : GoodIn wsX11_ground wsX5_lowest := goodIn_r _ [53, 25, 24, 54, 55, 56, 57, 58, 7, 59, 90, 91, 92, 93, 94, 95, 96, 97, 98] (by decide +kernel) (by decide +kernel)
set_option maxRecDepth 20000 in
theorem gX11_ground_X5_lowest : GoodIn wsX11_ground (wsV RX11 191 RX5 yX5_lowest wsX5_lowest) := goodIn_app (goodIn_of _ (by decide +kernel)) ggX11_ground_X5_lowest
set_option maxRecDepth 20000 in
theorem ggX11_ground_X11_granted : GoodIn wsX11_ground wsX11_granted := goodIn_r _ [63, 17, 64, 65, 66, 67, 68, 69, 70, 71, 72, 73, 74, 75] (by decide +kernel) (by decide +kernel)
set_option maxRecDepth 20000 in
theorem gX11_ground_X11_granted : GoodIn wsX11_ground (wsV RX11 114 RX11 yX11_granted wsX11_granted) := goodIn_app (goodIn_of _ (by decide +kernel)) ggX11_ground_X11_granted
theorem dX11_ground_0 : decode cX11_ground 0 = .ok (.aload_n 0, 1) := by decide +kernel
theorem dX11_ground_1 : decode cX11_ground 1 = .ok (.iload_n 1, 1) := by decide +kernel
theorem dX11_ground_2 : decode cX11_ground 2 = .ok (.invokevirtual 180, 3) := by decide +kernel
theorem dX11_ground_5 : decode cX11_ground 5 = .ok (.ifCond .eq 14, 3) := by decide +kernel
theorem dX11_ground_8 : decode cX11_ground 8 = .ok (.aload_n 0, 1) := by decide +kernel
theorem dX11_ground_9 : decode cX11_ground 9 = .ok (.aload_n 0, 1) := by decide +kernel
theorem dX11_ground_10 : decode cX11_ground 10 = .ok (.invokevirtual 183, 3) := by decide +kernel
theorem dX11_ground_13 : decode cX11_ground 13 = .ok (.ldc 168, 2) := by decide +kernel
theorem dX11_ground_15 : decode cX11_ground 15 = .ok (.invokevirtual 82, 3) := by decide +kernel
theorem dX11_ground_18 : decode cX11_ground 18 = .ok (.ireturn, 1) := by decide +kernel
theorem dX11_ground_19 : decode cX11_ground 19 = .ok (.aload_n 0, 1) := by decide +kernel
theorem dX11_ground_20 : decode cX11_ground 20 = .ok (.getfield 56, 3) := by decide +kernel
theorem dX11_ground_23 : decode cX11_ground 23 = .ok (.aload_n 0, 1) := by decide +kernel
theorem dX11_ground_24 : decode cX11_ground 24 = .ok (.getfield 63, 3) := by decide +kernel
theorem dX11_ground_27 : decode cX11_ground 27 = .ok (.iload_n 1, 1) := by decide +kernel
theorem dX11_ground_28 : decode cX11_ground 28 = .ok (.invokevirtual 187, 3) := by decide +kernel
theorem dX11_ground_31 : decode cX11_ground 31 = .ok (.aload_n 0, 1) := by decide +kernel
theorem dX11_ground_32 : decode cX11_ground 32 = .ok (.aload_n 0, 1) := by decide +kernel
theorem dX11_ground_33 : decode cX11_ground 33 = .ok (.getfield 56, 3) := by decide +kernel
theorem dX11_ground_36 : decode cX11_ground 36 = .ok (.invokevirtual 191, 3) := by decide +kernel
theorem dX11_ground_39 : decode cX11_ground 39 = .ok (.invokevirtual 114, 3) := by decide +kernel
theorem dX11_ground_42 : decode cX11_ground 42 = .ok (.ireturn, 1) := by decide +kernel
set_option maxRecDepth 20000 in
theorem ggX11_groundRow_X11_lacksGround : GoodIn wsX11_groundRow wsX11_lacksGround := goodIn_r _ [7, 2, 59, 60, 61, 62, 63, 64, 65, 66, 67, 68, 69, 70, 71, 72, 73, 74, 75, 76, 77, 78, 79, 80, 81, 82, 83, 84] (by decide +kernel) (by decide +kernel)
set_option maxRecDepth 20000 in
theorem gX11_groundRow_X11_lacksGround : GoodIn wsX11_groundRow (wsV RX11 180 RX11 yX11_lacksGround wsX11_lacksGround) := goodIn_app (goodIn_of _ (by decide +kernel)) ggX11_groundRow_X11_lacksGround
set_option maxRecDepth 20000 in
theorem ggX11_groundRow_X11_groundTrouble : GoodIn wsX11_groundRow wsX11_groundTrouble := goodIn_r _ [11, 2, 59, 60, 61, 62, 63, 64, 65, 66, 67, 68, 69, 70, 71, 72, 73, 74, 75, 76, 77, 78, 79, 80, 81, 82, 83, 84] (by decide +kernel) (by decide +kernel)
set_option maxRecDepth 20000 in
theorem gX11_groundRow_X11_groundTrouble : GoodIn wsX11_groundRow (wsV RX11 183 RX11 yX11_groundTrouble wsX11_groundTrouble) := goodIn_app (goodIn_of _ (by decide +kernel)) ggX11_groundRow_X11_groundTrouble
set_option maxRecDepth 20000 in
theorem ggX11_groundRow_X11_refused : GoodIn wsX11_groundRow wsX11_refused := goodIn_r _ [15, 16, 59, 60, 61, 62, 63, 64, 65, 66, 67, 68, 69, 70] (by decide +kernel) (by decide +kernel)
set_option maxRecDepth 20000 in
theorem gX11_groundRow_X11_refused : GoodIn wsX11_groundRow (wsV RX11 82 RX11 yX11_refused wsX11_refused) := goodIn_app (goodIn_of _ (by decide +kernel)) ggX11_groundRow_X11_refused
set_option maxRecDepth 20000 in
theorem ggX11_groundRow_X5_survey : GoodIn wsX11_groundRow wsX5_survey := goodIn_r _ [21, 22, 23, 24, 25, 26, 27, 28, 29, 30, 31, 32, 33, 34, 35, 36, 37, 38, 39, 40, 41, 42, 43, 44, 45, 46, 47, 6, 48, 85, 86, 87, 88, 89, 90, 91, 92, 93, 71, 72, 73, 74, 75, 76, 77, 78, 79, 80, 81, 82, 83, 84] (by decide +kernel) (by decide +kernel)
set_option maxRecDepth 20000 in
theorem gX11_groundRow_X5_survey : GoodIn wsX11_groundRow (wsV RX11 187 RX5 yX5_survey wsX5_survey) := goodIn_app (goodIn_of _ (by decide +kernel)) ggX11_groundRow_X5_survey
set_option maxRecDepth 20000 in
theorem ggX11_groundRow_X5_lowestRow : GoodIn wsX11_groundRow wsX5_lowestRow := goodIn_r _ [52, 23, 24, 53, 6, 54, 85, 86, 87, 88, 89, 90, 91, 92, 93] (by decide +kernel) (by decide +kernel)
set_option maxRecDepth 20000 in
theorem gX11_groundRow_X5_lowestRow : GoodIn wsX11_groundRow (wsV RX11 194 RX5 yX5_lowestRow wsX5_lowestRow) := goodIn_app (goodIn_of _ (by decide +kernel)) ggX11_groundRow_X5_lowestRow
set_option maxRecDepth 20000 in
theorem ggX11_groundRow_X11_granted : GoodIn wsX11_groundRow wsX11_granted := goodIn_r _ [58, 16, 59, 60, 61, 62, 63, 64, 65, 66, 67, 68, 69, 70] (by decide +kernel) (by decide +kernel)
set_option maxRecDepth 20000 in
theorem gX11_groundRow_X11_granted : GoodIn wsX11_groundRow (wsV RX11 114 RX11 yX11_granted wsX11_granted) := goodIn_app (goodIn_of _ (by decide +kernel)) ggX11_groundRow_X11_granted
theorem dX11_groundRow_0 : decode cX11_groundRow 0 = .ok (.aload_n 0, 1) := by decide +kernel
theorem dX11_groundRow_1 : decode cX11_groundRow 1 = .ok (.iload_n 1, 1) := by decide +kernel
theorem dX11_groundRow_2 : decode cX11_groundRow 2 = .ok (.invokevirtual 180, 3) := by decide +kernel
theorem dX11_groundRow_5 : decode cX11_groundRow 5 = .ok (.ifCond .eq 13, 3) := by decide +kernel
theorem dX11_groundRow_8 : decode cX11_groundRow 8 = .ok (.aload_n 0, 1) := by decide +kernel
theorem dX11_groundRow_9 : decode cX11_groundRow 9 = .ok (.aload_n 0, 1) := by decide +kernel
theorem dX11_groundRow_10 : decode cX11_groundRow 10 = .ok (.invokevirtual 183, 3) := by decide +kernel
theorem dX11_groundRow_13 : decode cX11_groundRow 13 = .ok (.iconst (-1), 1) := by decide +kernel
theorem dX11_groundRow_14 : decode cX11_groundRow 14 = .ok (.invokevirtual 82, 3) := by decide +kernel
theorem dX11_groundRow_17 : decode cX11_groundRow 17 = .ok (.ireturn, 1) := by decide +kernel
theorem dX11_groundRow_18 : decode cX11_groundRow 18 = .ok (.aload_n 0, 1) := by decide +kernel
theorem dX11_groundRow_19 : decode cX11_groundRow 19 = .ok (.getfield 56, 3) := by decide +kernel
theorem dX11_groundRow_22 : decode cX11_groundRow 22 = .ok (.aload_n 0, 1) := by decide +kernel
theorem dX11_groundRow_23 : decode cX11_groundRow 23 = .ok (.getfield 63, 3) := by decide +kernel
theorem dX11_groundRow_26 : decode cX11_groundRow 26 = .ok (.iload_n 1, 1) := by decide +kernel
theorem dX11_groundRow_27 : decode cX11_groundRow 27 = .ok (.invokevirtual 187, 3) := by decide +kernel
theorem dX11_groundRow_30 : decode cX11_groundRow 30 = .ok (.aload_n 0, 1) := by decide +kernel
theorem dX11_groundRow_31 : decode cX11_groundRow 31 = .ok (.aload_n 0, 1) := by decide +kernel
theorem dX11_groundRow_32 : decode cX11_groundRow 32 = .ok (.getfield 56, 3) := by decide +kernel
theorem dX11_groundRow_35 : decode cX11_groundRow 35 = .ok (.invokevirtual 194, 3) := by decide +kernel
theorem dX11_groundRow_38 : decode cX11_groundRow 38 = .ok (.invokevirtual 114, 3) := by decide +kernel
theorem dX11_groundRow_41 : decode cX11_groundRow 41 = .ok (.ireturn, 1) := by decide +kernel
set_option maxRecDepth 20000 in
theorem ggX11_groundMany_X11_lacksGround : GoodIn wsX11_groundMany wsX11_lacksGround := goodIn_r _ [7, 2, 67, 68, 69, 70, 71, 72, 73, 74, 75, 76, 77, 78, 79, 80, 81, 82, 83, 84, 85, 86, 87, 88, 89, 90, 91, 92] (by decide +kernel) (by decide +kernel)
set_option maxRecDepth 20000 in
theorem gX11_groundMany_X11_lacksGround : GoodIn wsX11_groundMany (wsV RX11 180 RX11 yX11_lacksGround wsX11_lacksGround) := goodIn_app (goodIn_of _ (by decide +kernel)) ggX11_groundMany_X11_lacksGround
set_option maxRecDepth 20000 in
theorem ggX11_groundMany_X11_groundTrouble : GoodIn wsX11_groundMany wsX11_groundTrouble := goodIn_r _ [11, 2, 67, 68, 69, 70, 71, 72, 73, 74, 75, 76, 77, 78, 79, 80, 81, 82, 83, 84, 85, 86, 87, 88, 89, 90, 91, 92] (by decide +kernel) (by decide +kernel)
set_option maxRecDepth 20000 in
theorem gX11_groundMany_X11_groundTrouble : GoodIn wsX11_groundMany (wsV RX11 183 RX11 yX11_groundTrouble wsX11_groundTrouble) := goodIn_app (goodIn_of _ (by decide +kernel)) ggX11_groundMany_X11_groundTrouble
set_option maxRecDepth 20000 in
theorem ggX11_groundMany_X11_refused : GoodIn wsX11_groundMany wsX11_refused := goodIn_r _ [15, 16, 67, 68, 69, 70, 71, 72, 73, 74, 75, 76, 77, 78] (by decide +kernel) (by decide +kernel)
set_option maxRecDepth 20000 in
theorem gX11_groundMany_X11_refused : GoodIn wsX11_groundMany (wsV RX11 82 RX11 yX11_refused wsX11_refused) := goodIn_app (goodIn_of _ (by decide +kernel)) ggX11_groundMany_X11_refused
set_option maxRecDepth 20000 in
theorem ggX11_groundMany_X5_survey : GoodIn wsX11_groundMany wsX5_survey := goodIn_r _ [21, 22, 23, 24, 25, 26, 27, 28, 29, 30, 31, 32, 33, 34, 35, 36, 37, 38, 39, 40, 41, 42, 43, 44, 45, 46, 47, 6, 48, 93, 94, 95, 96, 97, 98, 99, 100, 101, 79, 80, 81, 82, 83, 84, 85, 86, 87, 88, 89, 90, 91, 92] (by decide +kernel) (by decide +kernel)
set_option maxRecDepth 20000 in
theorem gX11_groundMany_X5_survey : GoodIn wsX11_groundMany (wsV RX11 187 RX5 yX5_survey wsX5_survey) := goodIn_app (goodIn_of _ (by decide +kernel)) ggX11_groundMany_X5_survey
set_option maxRecDepth 20000 in
theorem ggX11_groundMany_X5_lowestMany : GoodIn wsX11_groundMany wsX5_lowestMany := goodIn_r _ [52, 23, 24, 53, 54, 55, 20, 56, 57, 58, 59, 60, 61, 6, 62, 93, 94, 95, 96, 97, 98, 99, 100, 101] (by decide +kernel) (by decide +kernel)
set_option maxRecDepth 20000 in
theorem gX11_groundMany_X5_lowestMany : GoodIn wsX11_groundMany (wsV RX11 197 RX5 yX5_lowestMany wsX5_lowestMany) := goodIn_app (goodIn_of _ (by decide +kernel)) ggX11_groundMany_X5_lowestMany
set_option maxRecDepth 20000 in
theorem ggX11_groundMany_X11_granted : GoodIn wsX11_groundMany wsX11_granted := goodIn_r _ [66, 16, 67, 68, 69, 70, 71, 72, 73, 74, 75, 76, 77, 78] (by decide +kernel) (by decide +kernel)
set_option maxRecDepth 20000 in
theorem gX11_groundMany_X11_granted : GoodIn wsX11_groundMany (wsV RX11 114 RX11 yX11_granted wsX11_granted) := goodIn_app (goodIn_of _ (by decide +kernel)) ggX11_groundMany_X11_granted
theorem dX11_groundMany_0 : decode cX11_groundMany 0 = .ok (.aload_n 0, 1) := by decide +kernel
theorem dX11_groundMany_1 : decode cX11_groundMany 1 = .ok (.iload_n 1, 1) := by decide +kernel
theorem dX11_groundMany_2 : decode cX11_groundMany 2 = .ok (.invokevirtual 180, 3) := by decide +kernel
theorem dX11_groundMany_5 : decode cX11_groundMany 5 = .ok (.ifCond .eq 13, 3) := by decide +kernel
theorem dX11_groundMany_8 : decode cX11_groundMany 8 = .ok (.aload_n 0, 1) := by decide +kernel
theorem dX11_groundMany_9 : decode cX11_groundMany 9 = .ok (.aload_n 0, 1) := by decide +kernel
theorem dX11_groundMany_10 : decode cX11_groundMany 10 = .ok (.invokevirtual 183, 3) := by decide +kernel
theorem dX11_groundMany_13 : decode cX11_groundMany 13 = .ok (.iconst (-1), 1) := by decide +kernel
theorem dX11_groundMany_14 : decode cX11_groundMany 14 = .ok (.invokevirtual 82, 3) := by decide +kernel
theorem dX11_groundMany_17 : decode cX11_groundMany 17 = .ok (.ireturn, 1) := by decide +kernel
theorem dX11_groundMany_18 : decode cX11_groundMany 18 = .ok (.aload_n 0, 1) := by decide +kernel
theorem dX11_groundMany_19 : decode cX11_groundMany 19 = .ok (.getfield 56, 3) := by decide +kernel
theorem dX11_groundMany_22 : decode cX11_groundMany 22 = .ok (.aload_n 0, 1) := by decide +kernel
theorem dX11_groundMany_23 : decode cX11_groundMany 23 = .ok (.getfield 63, 3) := by decide +kernel
theorem dX11_groundMany_26 : decode cX11_groundMany 26 = .ok (.iload_n 1, 1) := by decide +kernel
theorem dX11_groundMany_27 : decode cX11_groundMany 27 = .ok (.invokevirtual 187, 3) := by decide +kernel
theorem dX11_groundMany_30 : decode cX11_groundMany 30 = .ok (.aload_n 0, 1) := by decide +kernel
theorem dX11_groundMany_31 : decode cX11_groundMany 31 = .ok (.aload_n 0, 1) := by decide +kernel
theorem dX11_groundMany_32 : decode cX11_groundMany 32 = .ok (.getfield 56, 3) := by decide +kernel
theorem dX11_groundMany_35 : decode cX11_groundMany 35 = .ok (.invokevirtual 197, 3) := by decide +kernel
theorem dX11_groundMany_38 : decode cX11_groundMany 38 = .ok (.invokevirtual 114, 3) := by decide +kernel
theorem dX11_groundMany_41 : decode cX11_groundMany 41 = .ok (.ireturn, 1) := by decide +kernel
set_option maxRecDepth 20000 in
theorem ggX11_groundBest_X11_refused : GoodIn wsX11_groundBest wsX11_refused := goodIn_r _ [7, 8, 55, 56, 57, 58, 59, 60, 61, 62, 63, 64, 65, 66] (by decide +kernel) (by decide +kernel)
set_option maxRecDepth 20000 in
theorem gX11_groundBest_X11_refused : GoodIn wsX11_groundBest (wsV RX11 82 RX11 yX11_refused wsX11_refused) := goodIn_app (goodIn_of _ (by decide +kernel)) ggX11_groundBest_X11_refused
set_option maxRecDepth 20000 in
theorem ggX11_groundBest_X5_survey : GoodIn wsX11_groundBest wsX5_survey := goodIn_r _ [13, 14, 15, 16, 17, 18, 19, 20, 21, 22, 23, 24, 25, 26, 27, 28, 29, 30, 31, 32, 33, 34, 35, 36, 37, 38, 39, 6, 40, 81, 82, 83, 84, 85, 86, 87, 88, 89, 67, 68, 69, 70, 71, 72, 73, 74, 75, 76, 77, 78, 79, 80] (by decide +kernel) (by decide +kernel)
set_option maxRecDepth 20000 in
theorem gX11_groundBest_X5_survey : GoodIn wsX11_groundBest (wsV RX11 187 RX5 yX5_survey wsX5_survey) := goodIn_app (goodIn_of _ (by decide +kernel)) ggX11_groundBest_X5_survey
set_option maxRecDepth 20000 in
theorem ggX11_groundBest_X5_lowest : GoodIn wsX11_groundBest wsX5_lowest := goodIn_r _ [44, 16, 15, 45, 46, 47, 48, 49, 6, 50, 81, 82, 83, 84, 85, 86, 87, 88, 89] (by decide +kernel) (by decide +kernel)
set_option maxRecDepth 20000 in
theorem gX11_groundBest_X5_lowest : GoodIn wsX11_groundBest (wsV RX11 191 RX5 yX5_lowest wsX5_lowest) := goodIn_app (goodIn_of _ (by decide +kernel)) ggX11_groundBest_X5_lowest
set_option maxRecDepth 20000 in
theorem ggX11_groundBest_X11_granted : GoodIn wsX11_groundBest wsX11_granted := goodIn_r _ [54, 8, 55, 56, 57, 58, 59, 60, 61, 62, 63, 64, 65, 66] (by decide +kernel) (by decide +kernel)
set_option maxRecDepth 20000 in
theorem gX11_groundBest_X11_granted : GoodIn wsX11_groundBest (wsV RX11 114 RX11 yX11_granted wsX11_granted) := goodIn_app (goodIn_of _ (by decide +kernel)) ggX11_groundBest_X11_granted
theorem dX11_groundBest_0 : decode cX11_groundBest 0 = .ok (.aload_n 0, 1) := by decide +kernel
theorem dX11_groundBest_1 : decode cX11_groundBest 1 = .ok (.getfield 63, 3) := by decide +kernel
theorem dX11_groundBest_4 : decode cX11_groundBest 4 = .ok (.getfield 172, 3) := by decide +kernel
theorem dX11_groundBest_7 : decode cX11_groundBest 7 = .ok (.ifCond .ne 10, 3) := by decide +kernel
theorem dX11_groundBest_10 : decode cX11_groundBest 10 = .ok (.aload_n 0, 1) := by decide +kernel
theorem dX11_groundBest_11 : decode cX11_groundBest 11 = .ok (.iconst 1, 1) := by decide +kernel
theorem dX11_groundBest_12 : decode cX11_groundBest 12 = .ok (.iconst (-1), 1) := by decide +kernel
theorem dX11_groundBest_13 : decode cX11_groundBest 13 = .ok (.invokevirtual 82, 3) := by decide +kernel
theorem dX11_groundBest_16 : decode cX11_groundBest 16 = .ok (.ireturn, 1) := by decide +kernel
theorem dX11_groundBest_17 : decode cX11_groundBest 17 = .ok (.iconst 2, 1) := by decide +kernel
theorem dX11_groundBest_18 : decode cX11_groundBest 18 = .ok (.istore_n 1, 1) := by decide +kernel
theorem dX11_groundBest_19 : decode cX11_groundBest 19 = .ok (.iconst 0, 1) := by decide +kernel
theorem dX11_groundBest_20 : decode cX11_groundBest 20 = .ok (.istore_n 2, 1) := by decide +kernel
theorem dX11_groundBest_21 : decode cX11_groundBest 21 = .ok (.iconst 2, 1) := by decide +kernel
theorem dX11_groundBest_22 : decode cX11_groundBest 22 = .ok (.istore_n 3, 1) := by decide +kernel
theorem dX11_groundBest_23 : decode cX11_groundBest 23 = .ok (.iload_n 3, 1) := by decide +kernel
theorem dX11_groundBest_24 : decode cX11_groundBest 24 = .ok (.bipush 12, 2) := by decide +kernel
theorem dX11_groundBest_26 : decode cX11_groundBest 26 = .ok (.if_icmp .gt 50, 3) := by decide +kernel
theorem dX11_groundBest_29 : decode cX11_groundBest 29 = .ok (.aload_n 0, 1) := by decide +kernel
theorem dX11_groundBest_30 : decode cX11_groundBest 30 = .ok (.getfield 56, 3) := by decide +kernel
theorem dX11_groundBest_33 : decode cX11_groundBest 33 = .ok (.aload_n 0, 1) := by decide +kernel
theorem dX11_groundBest_34 : decode cX11_groundBest 34 = .ok (.getfield 63, 3) := by decide +kernel
theorem dX11_groundBest_37 : decode cX11_groundBest 37 = .ok (.iload_n 3, 1) := by decide +kernel
theorem dX11_groundBest_38 : decode cX11_groundBest 38 = .ok (.invokevirtual 187, 3) := by decide +kernel
theorem dX11_groundBest_41 : decode cX11_groundBest 41 = .ok (.aload_n 0, 1) := by decide +kernel
theorem dX11_groundBest_42 : decode cX11_groundBest 42 = .ok (.getfield 56, 3) := by decide +kernel
theorem dX11_groundBest_45 : decode cX11_groundBest 45 = .ok (.invokevirtual 191, 3) := by decide +kernel
theorem dX11_groundBest_48 : decode cX11_groundBest 48 = .ok (.istore 4, 2) := by decide +kernel
theorem dX11_groundBest_50 : decode cX11_groundBest 50 = .ok (.iload_n 3, 1) := by decide +kernel
theorem dX11_groundBest_51 : decode cX11_groundBest 51 = .ok (.iconst 2, 1) := by decide +kernel
theorem dX11_groundBest_52 : decode cX11_groundBest 52 = .ok (.if_icmp .eq 13, 3) := by decide +kernel
theorem dX11_groundBest_55 : decode cX11_groundBest 55 = .ok (.iload 4, 2) := by decide +kernel
theorem dX11_groundBest_57 : decode cX11_groundBest 57 = .ok (.iload_n 1, 1) := by decide +kernel
theorem dX11_groundBest_58 : decode cX11_groundBest 58 = .ok (.imul, 1) := by decide +kernel
theorem dX11_groundBest_59 : decode cX11_groundBest 59 = .ok (.iload_n 2, 1) := by decide +kernel
theorem dX11_groundBest_60 : decode cX11_groundBest 60 = .ok (.iload_n 3, 1) := by decide +kernel
theorem dX11_groundBest_61 : decode cX11_groundBest 61 = .ok (.imul, 1) := by decide +kernel
theorem dX11_groundBest_62 : decode cX11_groundBest 62 = .ok (.if_icmp .ge 8, 3) := by decide +kernel
theorem dX11_groundBest_65 : decode cX11_groundBest 65 = .ok (.iload_n 3, 1) := by decide +kernel
theorem dX11_groundBest_66 : decode cX11_groundBest 66 = .ok (.istore_n 1, 1) := by decide +kernel
theorem dX11_groundBest_67 : decode cX11_groundBest 67 = .ok (.iload 4, 2) := by decide +kernel
theorem dX11_groundBest_69 : decode cX11_groundBest 69 = .ok (.istore_n 2, 1) := by decide +kernel
theorem dX11_groundBest_70 : decode cX11_groundBest 70 = .ok (.iinc 3 1, 3) := by decide +kernel
theorem dX11_groundBest_73 : decode cX11_groundBest 73 = .ok (.goto (-50), 3) := by decide +kernel
theorem dX11_groundBest_76 : decode cX11_groundBest 76 = .ok (.aload_n 0, 1) := by decide +kernel
theorem dX11_groundBest_77 : decode cX11_groundBest 77 = .ok (.iload_n 1, 1) := by decide +kernel
theorem dX11_groundBest_78 : decode cX11_groundBest 78 = .ok (.invokevirtual 114, 3) := by decide +kernel
theorem dX11_groundBest_81 : decode cX11_groundBest 81 = .ok (.ireturn, 1) := by decide +kernel
theorem dX11_lacksGround_0 : decode cX11_lacksGround 0 = .ok (.aload_n 0, 1) := by decide +kernel
theorem dX11_lacksGround_1 : decode cX11_lacksGround 1 = .ok (.getfield 63, 3) := by decide +kernel
theorem dX11_lacksGround_4 : decode cX11_lacksGround 4 = .ok (.getfield 172, 3) := by decide +kernel
theorem dX11_lacksGround_7 : decode cX11_lacksGround 7 = .ok (.ifCond .eq 14, 3) := by decide +kernel
theorem dX11_lacksGround_10 : decode cX11_lacksGround 10 = .ok (.iload_n 1, 1) := by decide +kernel
theorem dX11_lacksGround_11 : decode cX11_lacksGround 11 = .ok (.iconst 2, 1) := by decide +kernel
theorem dX11_lacksGround_12 : decode cX11_lacksGround 12 = .ok (.if_icmp .lt 9, 3) := by decide +kernel
theorem dX11_lacksGround_15 : decode cX11_lacksGround 15 = .ok (.iload_n 1, 1) := by decide +kernel
theorem dX11_lacksGround_16 : decode cX11_lacksGround 16 = .ok (.bipush 12, 2) := by decide +kernel
theorem dX11_lacksGround_18 : decode cX11_lacksGround 18 = .ok (.if_icmp .le 7, 3) := by decide +kernel
theorem dX11_lacksGround_21 : decode cX11_lacksGround 21 = .ok (.iconst 1, 1) := by decide +kernel
theorem dX11_lacksGround_22 : decode cX11_lacksGround 22 = .ok (.goto 4, 3) := by decide +kernel
theorem dX11_lacksGround_25 : decode cX11_lacksGround 25 = .ok (.iconst 0, 1) := by decide +kernel
theorem dX11_lacksGround_26 : decode cX11_lacksGround 26 = .ok (.ireturn, 1) := by decide +kernel
theorem dX11_groundTrouble_0 : decode cX11_groundTrouble 0 = .ok (.aload_n 0, 1) := by decide +kernel
theorem dX11_groundTrouble_1 : decode cX11_groundTrouble 1 = .ok (.getfield 63, 3) := by decide +kernel
theorem dX11_groundTrouble_4 : decode cX11_groundTrouble 4 = .ok (.getfield 172, 3) := by decide +kernel
theorem dX11_groundTrouble_7 : decode cX11_groundTrouble 7 = .ok (.ifCond .eq 7, 3) := by decide +kernel
theorem dX11_groundTrouble_10 : decode cX11_groundTrouble 10 = .ok (.iconst 2, 1) := by decide +kernel
theorem dX11_groundTrouble_11 : decode cX11_groundTrouble 11 = .ok (.goto 4, 3) := by decide +kernel
theorem dX11_groundTrouble_14 : decode cX11_groundTrouble 14 = .ok (.iconst 1, 1) := by decide +kernel
theorem dX11_groundTrouble_15 : decode cX11_groundTrouble 15 = .ok (.ireturn, 1) := by decide +kernel
set_option maxRecDepth 20000 in
theorem ggX11_kinds_X11_refused : GoodIn wsX11_kinds wsX11_refused := goodIn_r _ [6, 7, 51, 52, 53, 54, 55, 56, 57, 58, 59, 60, 61, 62] (by decide +kernel) (by decide +kernel)
set_option maxRecDepth 20000 in
theorem gX11_kinds_X11_refused : GoodIn wsX11_kinds (wsV RX11 82 RX11 yX11_refused wsX11_refused) := goodIn_app (goodIn_of _ (by decide +kernel)) ggX11_kinds_X11_refused
set_option maxRecDepth 20000 in
theorem ggX11_kinds_X11_isNoHow : GoodIn wsX11_kinds wsX11_isNoHow := goodIn_r _ [10] (by decide +kernel) (by decide +kernel)
set_option maxRecDepth 20000 in
theorem gX11_kinds_X11_isNoHow : GoodIn wsX11_kinds (va_wsS RX11 200 yX11_isNoHow wsX11_isNoHow) := goodIn_app (goodIn_of _ (by decide +kernel)) ggX11_kinds_X11_isNoHow
set_option maxRecDepth 20000 in
theorem ggX11_kinds_X8_all : GoodIn wsX11_kinds wsX8_all := goodIn_r _ [14] (by decide +kernel) (by decide +kernel)
set_option maxRecDepth 20000 in
theorem gX11_kinds_X8_all : GoodIn wsX11_kinds (va_wsS RX11 203 yX8_all wsX8_all) := goodIn_app (goodIn_of _ (by decide +kernel)) ggX11_kinds_X8_all
set_option maxRecDepth 20000 in
theorem ggX11_kinds_X8_closes : GoodIn wsX11_kinds wsX8_closes := goodIn_r _ [17, 18, 19, 13, 20, 21, 22, 23, 24, 25, 26, 27] (by decide +kernel) (by decide +kernel)
set_option maxRecDepth 20000 in
theorem gX11_kinds_X8_closes : GoodIn wsX11_kinds (va_wsS RX11 206 yX8_closes wsX8_closes) := goodIn_app (goodIn_of _ (by decide +kernel)) ggX11_kinds_X8_closes
set_option maxRecDepth 20000 in
theorem ggX11_kinds_X8_isLeastAlike : GoodIn wsX11_kinds wsX8_isLeastAlike := goodIn_r _ [30, 31, 32, 13, 33, 34, 35, 36, 37, 12, 14, 38, 39, 40, 41, 42, 43, 44, 45, 46] (by decide +kernel) (by decide +kernel)
set_option maxRecDepth 20000 in
theorem gX11_kinds_X8_isLeastAlike : GoodIn wsX11_kinds (va_wsS RX11 209 yX8_isLeastAlike wsX8_isLeastAlike) := goodIn_app (goodIn_of _ (by decide +kernel)) ggX11_kinds_X8_isLeastAlike
set_option maxRecDepth 20000 in
theorem ggX11_kinds_X11_granted : GoodIn wsX11_kinds wsX11_granted := goodIn_r _ [50, 7, 51, 52, 53, 54, 55, 56, 57, 58, 59, 60, 61, 62] (by decide +kernel) (by decide +kernel)
set_option maxRecDepth 20000 in
theorem gX11_kinds_X11_granted : GoodIn wsX11_kinds (wsV RX11 114 RX11 yX11_granted wsX11_granted) := goodIn_app (goodIn_of _ (by decide +kernel)) ggX11_kinds_X11_granted
theorem dX11_kinds_0 : decode cX11_kinds 0 = .ok (.aload_n 0, 1) := by decide +kernel
theorem dX11_kinds_1 : decode cX11_kinds 1 = .ok (.getfield 63, 3) := by decide +kernel
theorem dX11_kinds_4 : decode cX11_kinds 4 = .ok (.getfield 172, 3) := by decide +kernel
theorem dX11_kinds_7 : decode cX11_kinds 7 = .ok (.ifCond .ne 10, 3) := by decide +kernel
theorem dX11_kinds_10 : decode cX11_kinds 10 = .ok (.aload_n 0, 1) := by decide +kernel
theorem dX11_kinds_11 : decode cX11_kinds 11 = .ok (.iconst 1, 1) := by decide +kernel
theorem dX11_kinds_12 : decode cX11_kinds 12 = .ok (.iconst (-1), 1) := by decide +kernel
theorem dX11_kinds_13 : decode cX11_kinds 13 = .ok (.invokevirtual 82, 3) := by decide +kernel
theorem dX11_kinds_16 : decode cX11_kinds 16 = .ok (.ireturn, 1) := by decide +kernel
theorem dX11_kinds_17 : decode cX11_kinds 17 = .ok (.iload_n 1, 1) := by decide +kernel
theorem dX11_kinds_18 : decode cX11_kinds 18 = .ok (.iconst 1, 1) := by decide +kernel
theorem dX11_kinds_19 : decode cX11_kinds 19 = .ok (.if_icmp .lt 16, 3) := by decide +kernel
theorem dX11_kinds_22 : decode cX11_kinds 22 = .ok (.iload_n 1, 1) := by decide +kernel
theorem dX11_kinds_23 : decode cX11_kinds 23 = .ok (.bipush 12, 2) := by decide +kernel
theorem dX11_kinds_25 : decode cX11_kinds 25 = .ok (.if_icmp .gt 10, 3) := by decide +kernel
theorem dX11_kinds_28 : decode cX11_kinds 28 = .ok (.iload_n 2, 1) := by decide +kernel
theorem dX11_kinds_29 : decode cX11_kinds 29 = .ok (.invokestatic 200, 3) := by decide +kernel
theorem dX11_kinds_32 : decode cX11_kinds 32 = .ok (.ifCond .eq 10, 3) := by decide +kernel
theorem dX11_kinds_35 : decode cX11_kinds 35 = .ok (.aload_n 0, 1) := by decide +kernel
theorem dX11_kinds_36 : decode cX11_kinds 36 = .ok (.iconst 2, 1) := by decide +kernel
theorem dX11_kinds_37 : decode cX11_kinds 37 = .ok (.iconst (-1), 1) := by decide +kernel
theorem dX11_kinds_38 : decode cX11_kinds 38 = .ok (.invokevirtual 82, 3) := by decide +kernel
theorem dX11_kinds_41 : decode cX11_kinds 41 = .ok (.ireturn, 1) := by decide +kernel
theorem dX11_kinds_42 : decode cX11_kinds 42 = .ok (.iconst 0, 1) := by decide +kernel
theorem dX11_kinds_43 : decode cX11_kinds 43 = .ok (.istore 4, 2) := by decide +kernel
theorem dX11_kinds_45 : decode cX11_kinds 45 = .ok (.iconst 0, 1) := by decide +kernel
theorem dX11_kinds_46 : decode cX11_kinds 46 = .ok (.istore 5, 2) := by decide +kernel
theorem dX11_kinds_48 : decode cX11_kinds 48 = .ok (.iload 5, 2) := by decide +kernel
theorem dX11_kinds_50 : decode cX11_kinds 50 = .ok (.iload_n 1, 1) := by decide +kernel
theorem dX11_kinds_51 : decode cX11_kinds 51 = .ok (.invokestatic 203, 3) := by decide +kernel
theorem dX11_kinds_54 : decode cX11_kinds 54 = .ok (.if_icmp .gt 54, 3) := by decide +kernel
theorem dX11_kinds_57 : decode cX11_kinds 57 = .ok (.iload_n 3, 1) := by decide +kernel
theorem dX11_kinds_58 : decode cX11_kinds 58 = .ok (.ifCond .eq 12, 3) := by decide +kernel
theorem dX11_kinds_61 : decode cX11_kinds 61 = .ok (.iload 5, 2) := by decide +kernel
theorem dX11_kinds_63 : decode cX11_kinds 63 = .ok (.iload_n 1, 1) := by decide +kernel
theorem dX11_kinds_64 : decode cX11_kinds 64 = .ok (.invokestatic 206, 3) := by decide +kernel
theorem dX11_kinds_67 : decode cX11_kinds 67 = .ok (.ifCond .eq 7, 3) := by decide +kernel
theorem dX11_kinds_70 : decode cX11_kinds 70 = .ok (.iconst 1, 1) := by decide +kernel
theorem dX11_kinds_71 : decode cX11_kinds 71 = .ok (.goto 4, 3) := by decide +kernel
theorem dX11_kinds_74 : decode cX11_kinds 74 = .ok (.iconst 0, 1) := by decide +kernel
theorem dX11_kinds_75 : decode cX11_kinds 75 = .ok (.istore 6, 2) := by decide +kernel
theorem dX11_kinds_77 : decode cX11_kinds 77 = .ok (.iload 4, 2) := by decide +kernel
theorem dX11_kinds_79 : decode cX11_kinds 79 = .ok (.iload 6, 2) := by decide +kernel
theorem dX11_kinds_81 : decode cX11_kinds 81 = .ok (.ifCond .eq 17, 3) := by decide +kernel
theorem dX11_kinds_84 : decode cX11_kinds 84 = .ok (.iload 5, 2) := by decide +kernel
theorem dX11_kinds_86 : decode cX11_kinds 86 = .ok (.iload_n 1, 1) := by decide +kernel
theorem dX11_kinds_87 : decode cX11_kinds 87 = .ok (.iload_n 2, 1) := by decide +kernel
theorem dX11_kinds_88 : decode cX11_kinds 88 = .ok (.invokestatic 209, 3) := by decide +kernel
theorem dX11_kinds_91 : decode cX11_kinds 91 = .ok (.ifCond .eq 7, 3) := by decide +kernel
theorem dX11_kinds_94 : decode cX11_kinds 94 = .ok (.iconst 1, 1) := by decide +kernel
theorem dX11_kinds_95 : decode cX11_kinds 95 = .ok (.goto 4, 3) := by decide +kernel
theorem dX11_kinds_98 : decode cX11_kinds 98 = .ok (.iconst 0, 1) := by decide +kernel
theorem dX11_kinds_99 : decode cX11_kinds 99 = .ok (.iadd, 1) := by decide +kernel
theorem dX11_kinds_100 : decode cX11_kinds 100 = .ok (.istore 4, 2) := by decide +kernel
theorem dX11_kinds_102 : decode cX11_kinds 102 = .ok (.iinc 5 1, 3) := by decide +kernel
theorem dX11_kinds_105 : decode cX11_kinds 105 = .ok (.goto (-57), 3) := by decide +kernel
theorem dX11_kinds_108 : decode cX11_kinds 108 = .ok (.aload_n 0, 1) := by decide +kernel
theorem dX11_kinds_109 : decode cX11_kinds 109 = .ok (.iload 4, 2) := by decide +kernel
theorem dX11_kinds_111 : decode cX11_kinds 111 = .ok (.invokevirtual 114, 3) := by decide +kernel
theorem dX11_kinds_114 : decode cX11_kinds 114 = .ok (.ireturn, 1) := by decide +kernel
set_option maxRecDepth 20000 in
theorem ggX11_alike_X11_lacks : GoodIn wsX11_alike wsX11_lacks := goodIn_r _ [6, 1, 61, 62, 63, 64, 65, 66, 67, 68, 69, 70, 71, 72, 73, 74, 75] (by decide +kernel) (by decide +kernel)
set_option maxRecDepth 20000 in
theorem gX11_alike_X11_lacks : GoodIn wsX11_alike (wsV RX11 121 RX11 yX11_lacks wsX11_lacks) := goodIn_app (goodIn_of _ (by decide +kernel)) ggX11_alike_X11_lacks
set_option maxRecDepth 20000 in
theorem ggX11_alike_X11_refused : GoodIn wsX11_alike wsX11_refused := goodIn_r _ [10, 11, 61, 62, 63, 64, 65, 66, 67, 68, 69, 70, 71, 72] (by decide +kernel) (by decide +kernel)
set_option maxRecDepth 20000 in
theorem gX11_alike_X11_refused : GoodIn wsX11_alike (wsV RX11 82 RX11 yX11_refused wsX11_refused) := goodIn_app (goodIn_of _ (by decide +kernel)) ggX11_alike_X11_refused
set_option maxRecDepth 20000 in
theorem ggX11_alike_X11_isNoHow : GoodIn wsX11_alike wsX11_isNoHow := goodIn_r _ [14] (by decide +kernel) (by decide +kernel)
set_option maxRecDepth 20000 in
theorem gX11_alike_X11_isNoHow : GoodIn wsX11_alike (va_wsS RX11 200 yX11_isNoHow wsX11_isNoHow) := goodIn_app (goodIn_of _ (by decide +kernel)) ggX11_alike_X11_isNoHow
set_option maxRecDepth 20000 in
theorem ggX11_alike_X9_steps : GoodIn wsX11_alike wsX9_steps := goodIn_r _ [19, 20, 21, 5, 22, 73, 74, 75] (by decide +kernel) (by decide +kernel)
set_option maxRecDepth 20000 in
theorem gX11_alike_X9_steps : GoodIn wsX11_alike (wsV RX11 127 RX9 yX9_steps wsX9_steps) := goodIn_app (goodIn_of _ (by decide +kernel)) ggX11_alike_X9_steps
set_option maxRecDepth 20000 in
theorem ggX11_alike_X11_granted : GoodIn wsX11_alike wsX11_granted := goodIn_r _ [26, 11, 61, 62, 63, 64, 65, 66, 67, 68, 69, 70, 71, 72] (by decide +kernel) (by decide +kernel)
set_option maxRecDepth 20000 in
theorem gX11_alike_X11_granted : GoodIn wsX11_alike (wsV RX11 114 RX11 yX11_granted wsX11_granted) := goodIn_app (goodIn_of _ (by decide +kernel)) ggX11_alike_X11_granted
set_option maxRecDepth 20000 in
theorem ggX11_alike_X9_row : GoodIn wsX11_alike wsX9_row := goodIn_r _ [30, 31, 21, 5, 22, 73, 74, 75] (by decide +kernel) (by decide +kernel)
set_option maxRecDepth 20000 in
theorem gX11_alike_X9_row : GoodIn wsX11_alike (wsV RX11 124 RX9 yX9_row wsX9_row) := goodIn_app (goodIn_of _ (by decide +kernel)) ggX11_alike_X9_row
set_option maxRecDepth 20000 in
theorem ggX11_alike_X8_leastAlike : GoodIn wsX11_alike wsX8_leastAlike := goodIn_r _ [35, 36, 37, 38, 39, 40, 41, 34, 42, 43, 44, 45, 46, 47, 48, 49, 50, 51, 52, 53, 54, 55, 56, 57, 58, 59, 60] (by decide +kernel) (by decide +kernel)
set_option maxRecDepth 20000 in
theorem gX11_alike_X8_leastAlike : GoodIn wsX11_alike (va_wsS RX11 212 yX8_leastAlike wsX8_leastAlike) := goodIn_app (goodIn_of _ (by decide +kernel)) ggX11_alike_X8_leastAlike
theorem dX11_alike_0 : decode cX11_alike 0 = .ok (.aload_n 0, 1) := by decide +kernel
theorem dX11_alike_1 : decode cX11_alike 1 = .ok (.iload_n 1, 1) := by decide +kernel
theorem dX11_alike_2 : decode cX11_alike 2 = .ok (.invokevirtual 121, 3) := by decide +kernel
theorem dX11_alike_5 : decode cX11_alike 5 = .ok (.ifCond .ne 11, 3) := by decide +kernel
theorem dX11_alike_8 : decode cX11_alike 8 = .ok (.aload_n 0, 1) := by decide +kernel
theorem dX11_alike_9 : decode cX11_alike 9 = .ok (.iload_n 2, 1) := by decide +kernel
theorem dX11_alike_10 : decode cX11_alike 10 = .ok (.invokevirtual 121, 3) := by decide +kernel
theorem dX11_alike_13 : decode cX11_alike 13 = .ok (.ifCond .eq 10, 3) := by decide +kernel
theorem dX11_alike_16 : decode cX11_alike 16 = .ok (.aload_n 0, 1) := by decide +kernel
theorem dX11_alike_17 : decode cX11_alike 17 = .ok (.iconst 1, 1) := by decide +kernel
theorem dX11_alike_18 : decode cX11_alike 18 = .ok (.iconst (-1), 1) := by decide +kernel
theorem dX11_alike_19 : decode cX11_alike 19 = .ok (.invokevirtual 82, 3) := by decide +kernel
theorem dX11_alike_22 : decode cX11_alike 22 = .ok (.ireturn, 1) := by decide +kernel
theorem dX11_alike_23 : decode cX11_alike 23 = .ok (.iload_n 3, 1) := by decide +kernel
theorem dX11_alike_24 : decode cX11_alike 24 = .ok (.invokestatic 200, 3) := by decide +kernel
theorem dX11_alike_27 : decode cX11_alike 27 = .ok (.ifCond .eq 10, 3) := by decide +kernel
theorem dX11_alike_30 : decode cX11_alike 30 = .ok (.aload_n 0, 1) := by decide +kernel
theorem dX11_alike_31 : decode cX11_alike 31 = .ok (.iconst 2, 1) := by decide +kernel
theorem dX11_alike_32 : decode cX11_alike 32 = .ok (.iconst (-1), 1) := by decide +kernel
theorem dX11_alike_33 : decode cX11_alike 33 = .ok (.invokevirtual 82, 3) := by decide +kernel
theorem dX11_alike_36 : decode cX11_alike 36 = .ok (.ireturn, 1) := by decide +kernel
theorem dX11_alike_37 : decode cX11_alike 37 = .ok (.aload_n 0, 1) := by decide +kernel
theorem dX11_alike_38 : decode cX11_alike 38 = .ok (.getfield 28, 3) := by decide +kernel
theorem dX11_alike_41 : decode cX11_alike 41 = .ok (.iload_n 1, 1) := by decide +kernel
theorem dX11_alike_42 : decode cX11_alike 42 = .ok (.invokevirtual 127, 3) := by decide +kernel
theorem dX11_alike_45 : decode cX11_alike 45 = .ok (.istore 4, 2) := by decide +kernel
theorem dX11_alike_47 : decode cX11_alike 47 = .ok (.iload 4, 2) := by decide +kernel
theorem dX11_alike_49 : decode cX11_alike 49 = .ok (.aload_n 0, 1) := by decide +kernel
theorem dX11_alike_50 : decode cX11_alike 50 = .ok (.getfield 28, 3) := by decide +kernel
theorem dX11_alike_53 : decode cX11_alike 53 = .ok (.iload_n 2, 1) := by decide +kernel
theorem dX11_alike_54 : decode cX11_alike 54 = .ok (.invokevirtual 127, 3) := by decide +kernel
theorem dX11_alike_57 : decode cX11_alike 57 = .ok (.if_icmp .eq 9, 3) := by decide +kernel
theorem dX11_alike_60 : decode cX11_alike 60 = .ok (.aload_n 0, 1) := by decide +kernel
theorem dX11_alike_61 : decode cX11_alike 61 = .ok (.iconst 0, 1) := by decide +kernel
theorem dX11_alike_62 : decode cX11_alike 62 = .ok (.invokevirtual 114, 3) := by decide +kernel
theorem dX11_alike_65 : decode cX11_alike 65 = .ok (.ireturn, 1) := by decide +kernel
theorem dX11_alike_66 : decode cX11_alike 66 = .ok (.aload_n 0, 1) := by decide +kernel
theorem dX11_alike_67 : decode cX11_alike 67 = .ok (.getfield 28, 3) := by decide +kernel
theorem dX11_alike_70 : decode cX11_alike 70 = .ok (.iload_n 1, 1) := by decide +kernel
theorem dX11_alike_71 : decode cX11_alike 71 = .ok (.invokevirtual 124, 3) := by decide +kernel
theorem dX11_alike_74 : decode cX11_alike 74 = .ok (.iload 4, 2) := by decide +kernel
theorem dX11_alike_76 : decode cX11_alike 76 = .ok (.iload_n 3, 1) := by decide +kernel
theorem dX11_alike_77 : decode cX11_alike 77 = .ok (.invokestatic 212, 3) := by decide +kernel
theorem dX11_alike_80 : decode cX11_alike 80 = .ok (.istore 5, 2) := by decide +kernel
theorem dX11_alike_82 : decode cX11_alike 82 = .ok (.aload_n 0, 1) := by decide +kernel
theorem dX11_alike_83 : decode cX11_alike 83 = .ok (.iload 5, 2) := by decide +kernel
theorem dX11_alike_85 : decode cX11_alike 85 = .ok (.aload_n 0, 1) := by decide +kernel
theorem dX11_alike_86 : decode cX11_alike 86 = .ok (.getfield 28, 3) := by decide +kernel
theorem dX11_alike_89 : decode cX11_alike 89 = .ok (.iload_n 2, 1) := by decide +kernel
theorem dX11_alike_90 : decode cX11_alike 90 = .ok (.invokevirtual 124, 3) := by decide +kernel
theorem dX11_alike_93 : decode cX11_alike 93 = .ok (.iload 4, 2) := by decide +kernel
theorem dX11_alike_95 : decode cX11_alike 95 = .ok (.iload_n 3, 1) := by decide +kernel
theorem dX11_alike_96 : decode cX11_alike 96 = .ok (.invokestatic 212, 3) := by decide +kernel
theorem dX11_alike_99 : decode cX11_alike 99 = .ok (.if_icmp .ne 7, 3) := by decide +kernel
theorem dX11_alike_102 : decode cX11_alike 102 = .ok (.iconst 1, 1) := by decide +kernel
theorem dX11_alike_103 : decode cX11_alike 103 = .ok (.goto 4, 3) := by decide +kernel
theorem dX11_alike_106 : decode cX11_alike 106 = .ok (.iconst 0, 1) := by decide +kernel
theorem dX11_alike_107 : decode cX11_alike 107 = .ok (.invokevirtual 114, 3) := by decide +kernel
theorem dX11_alike_110 : decode cX11_alike 110 = .ok (.ireturn, 1) := by decide +kernel
set_option maxRecDepth 20000 in
theorem ggX11_least_X11_lacks : GoodIn wsX11_least wsX11_lacks := goodIn_r _ [6, 1, 61, 62, 63, 64, 65, 66, 67, 68, 69, 70, 71, 72, 73, 74, 75] (by decide +kernel) (by decide +kernel)
set_option maxRecDepth 20000 in
theorem gX11_least_X11_lacks : GoodIn wsX11_least (wsV RX11 121 RX11 yX11_lacks wsX11_lacks) := goodIn_app (goodIn_of _ (by decide +kernel)) ggX11_least_X11_lacks
set_option maxRecDepth 20000 in
theorem ggX11_least_X11_refused : GoodIn wsX11_least wsX11_refused := goodIn_r _ [10, 11, 61, 62, 63, 64, 65, 66, 67, 68, 69, 70, 71, 72] (by decide +kernel) (by decide +kernel)
set_option maxRecDepth 20000 in
theorem gX11_least_X11_refused : GoodIn wsX11_least (wsV RX11 82 RX11 yX11_refused wsX11_refused) := goodIn_app (goodIn_of _ (by decide +kernel)) ggX11_least_X11_refused
set_option maxRecDepth 20000 in
theorem ggX11_least_X11_isNoHow : GoodIn wsX11_least wsX11_isNoHow := goodIn_r _ [14] (by decide +kernel) (by decide +kernel)
set_option maxRecDepth 20000 in
theorem gX11_least_X11_isNoHow : GoodIn wsX11_least (va_wsS RX11 200 yX11_isNoHow wsX11_isNoHow) := goodIn_app (goodIn_of _ (by decide +kernel)) ggX11_least_X11_isNoHow
set_option maxRecDepth 20000 in
theorem ggX11_least_X9_row : GoodIn wsX11_least wsX9_row := goodIn_r _ [19, 20, 21, 5, 22, 73, 74, 75] (by decide +kernel) (by decide +kernel)
set_option maxRecDepth 20000 in
theorem gX11_least_X9_row : GoodIn wsX11_least (wsV RX11 124 RX9 yX9_row wsX9_row) := goodIn_app (goodIn_of _ (by decide +kernel)) ggX11_least_X9_row
set_option maxRecDepth 20000 in
theorem ggX11_least_X9_steps : GoodIn wsX11_least wsX9_steps := goodIn_r _ [26, 27, 21, 5, 22, 73, 74, 75] (by decide +kernel) (by decide +kernel)
set_option maxRecDepth 20000 in
theorem gX11_least_X9_steps : GoodIn wsX11_least (wsV RX11 127 RX9 yX9_steps wsX9_steps) := goodIn_app (goodIn_of _ (by decide +kernel)) ggX11_least_X9_steps
set_option maxRecDepth 20000 in
theorem ggX11_least_X8_leastAlike : GoodIn wsX11_least wsX8_leastAlike := goodIn_r _ [31, 32, 33, 34, 35, 36, 37, 30, 38, 39, 40, 41, 42, 43, 44, 45, 46, 47, 48, 49, 50, 51, 52, 53, 54, 55, 56] (by decide +kernel) (by decide +kernel)
set_option maxRecDepth 20000 in
theorem gX11_least_X8_leastAlike : GoodIn wsX11_least (va_wsS RX11 212 yX8_leastAlike wsX8_leastAlike) := goodIn_app (goodIn_of _ (by decide +kernel)) ggX11_least_X8_leastAlike
set_option maxRecDepth 20000 in
theorem ggX11_least_X11_granted : GoodIn wsX11_least wsX11_granted := goodIn_r _ [60, 11, 61, 62, 63, 64, 65, 66, 67, 68, 69, 70, 71, 72] (by decide +kernel) (by decide +kernel)
set_option maxRecDepth 20000 in
theorem gX11_least_X11_granted : GoodIn wsX11_least (wsV RX11 114 RX11 yX11_granted wsX11_granted) := goodIn_app (goodIn_of _ (by decide +kernel)) ggX11_least_X11_granted
theorem dX11_least_0 : decode cX11_least 0 = .ok (.aload_n 0, 1) := by decide +kernel
theorem dX11_least_1 : decode cX11_least 1 = .ok (.iload_n 1, 1) := by decide +kernel
theorem dX11_least_2 : decode cX11_least 2 = .ok (.invokevirtual 121, 3) := by decide +kernel
theorem dX11_least_5 : decode cX11_least 5 = .ok (.ifCond .eq 10, 3) := by decide +kernel
theorem dX11_least_8 : decode cX11_least 8 = .ok (.aload_n 0, 1) := by decide +kernel
theorem dX11_least_9 : decode cX11_least 9 = .ok (.iconst 1, 1) := by decide +kernel
theorem dX11_least_10 : decode cX11_least 10 = .ok (.iconst (-1), 1) := by decide +kernel
theorem dX11_least_11 : decode cX11_least 11 = .ok (.invokevirtual 82, 3) := by decide +kernel
theorem dX11_least_14 : decode cX11_least 14 = .ok (.ireturn, 1) := by decide +kernel
theorem dX11_least_15 : decode cX11_least 15 = .ok (.iload_n 2, 1) := by decide +kernel
theorem dX11_least_16 : decode cX11_least 16 = .ok (.invokestatic 200, 3) := by decide +kernel
theorem dX11_least_19 : decode cX11_least 19 = .ok (.ifCond .eq 10, 3) := by decide +kernel
theorem dX11_least_22 : decode cX11_least 22 = .ok (.aload_n 0, 1) := by decide +kernel
theorem dX11_least_23 : decode cX11_least 23 = .ok (.iconst 2, 1) := by decide +kernel
theorem dX11_least_24 : decode cX11_least 24 = .ok (.iconst (-1), 1) := by decide +kernel
theorem dX11_least_25 : decode cX11_least 25 = .ok (.invokevirtual 82, 3) := by decide +kernel
theorem dX11_least_28 : decode cX11_least 28 = .ok (.ireturn, 1) := by decide +kernel
theorem dX11_least_29 : decode cX11_least 29 = .ok (.aload_n 0, 1) := by decide +kernel
theorem dX11_least_30 : decode cX11_least 30 = .ok (.aload_n 0, 1) := by decide +kernel
theorem dX11_least_31 : decode cX11_least 31 = .ok (.getfield 28, 3) := by decide +kernel
theorem dX11_least_34 : decode cX11_least 34 = .ok (.iload_n 1, 1) := by decide +kernel
theorem dX11_least_35 : decode cX11_least 35 = .ok (.invokevirtual 124, 3) := by decide +kernel
theorem dX11_least_38 : decode cX11_least 38 = .ok (.aload_n 0, 1) := by decide +kernel
theorem dX11_least_39 : decode cX11_least 39 = .ok (.getfield 28, 3) := by decide +kernel
theorem dX11_least_42 : decode cX11_least 42 = .ok (.iload_n 1, 1) := by decide +kernel
theorem dX11_least_43 : decode cX11_least 43 = .ok (.invokevirtual 127, 3) := by decide +kernel
theorem dX11_least_46 : decode cX11_least 46 = .ok (.iload_n 2, 1) := by decide +kernel
theorem dX11_least_47 : decode cX11_least 47 = .ok (.invokestatic 212, 3) := by decide +kernel
theorem dX11_least_50 : decode cX11_least 50 = .ok (.invokevirtual 114, 3) := by decide +kernel
theorem dX11_least_53 : decode cX11_least 53 = .ok (.ireturn, 1) := by decide +kernel
set_option maxRecDepth 20000 in
theorem ggX11_manyAlike_X11_lacks : GoodIn wsX11_manyAlike wsX11_lacks := goodIn_r _ [6, 1, 64, 65, 66, 67, 68, 69, 70, 71, 72, 73, 74, 75, 76, 77, 78] (by decide +kernel) (by decide +kernel)
set_option maxRecDepth 20000 in
theorem gX11_manyAlike_X11_lacks : GoodIn wsX11_manyAlike (wsV RX11 121 RX11 yX11_lacks wsX11_lacks) := goodIn_app (goodIn_of _ (by decide +kernel)) ggX11_manyAlike_X11_lacks
set_option maxRecDepth 20000 in
theorem ggX11_manyAlike_X11_refused : GoodIn wsX11_manyAlike wsX11_refused := goodIn_r _ [10, 11, 64, 65, 66, 67, 68, 69, 70, 71, 72, 73, 74, 75] (by decide +kernel) (by decide +kernel)
set_option maxRecDepth 20000 in
theorem gX11_manyAlike_X11_refused : GoodIn wsX11_manyAlike (wsV RX11 82 RX11 yX11_refused wsX11_refused) := goodIn_app (goodIn_of _ (by decide +kernel)) ggX11_manyAlike_X11_refused
set_option maxRecDepth 20000 in
theorem ggX11_manyAlike_X11_isNoHow : GoodIn wsX11_manyAlike wsX11_isNoHow := goodIn_r _ [14] (by decide +kernel) (by decide +kernel)
set_option maxRecDepth 20000 in
theorem gX11_manyAlike_X11_isNoHow : GoodIn wsX11_manyAlike (va_wsS RX11 200 yX11_isNoHow wsX11_isNoHow) := goodIn_app (goodIn_of _ (by decide +kernel)) ggX11_manyAlike_X11_isNoHow
set_option maxRecDepth 20000 in
theorem ggX11_manyAlike_X9_row : GoodIn wsX11_manyAlike wsX9_row := goodIn_r _ [19, 20, 21, 5, 22, 76, 77, 78] (by decide +kernel) (by decide +kernel)
set_option maxRecDepth 20000 in
theorem gX11_manyAlike_X9_row : GoodIn wsX11_manyAlike (wsV RX11 124 RX9 yX9_row wsX9_row) := goodIn_app (goodIn_of _ (by decide +kernel)) ggX11_manyAlike_X9_row
set_option maxRecDepth 20000 in
theorem ggX11_manyAlike_X9_steps : GoodIn wsX11_manyAlike wsX9_steps := goodIn_r _ [26, 27, 21, 5, 22, 76, 77, 78] (by decide +kernel) (by decide +kernel)
set_option maxRecDepth 20000 in
theorem gX11_manyAlike_X9_steps : GoodIn wsX11_manyAlike (wsV RX11 127 RX9 yX9_steps wsX9_steps) := goodIn_app (goodIn_of _ (by decide +kernel)) ggX11_manyAlike_X9_steps
set_option maxRecDepth 20000 in
theorem ggX11_manyAlike_X8_countAlike : GoodIn wsX11_manyAlike wsX8_countAlike := goodIn_r _ [31, 32, 33, 30, 34, 35, 36, 37, 38, 39, 40, 41, 42, 43, 44, 45, 46, 47, 48, 49, 50, 51, 52, 53, 54, 55, 56, 57, 58, 59] (by decide +kernel) (by decide +kernel)
set_option maxRecDepth 20000 in
theorem gX11_manyAlike_X8_countAlike : GoodIn wsX11_manyAlike (va_wsS RX11 215 yX8_countAlike wsX8_countAlike) := goodIn_app (goodIn_of _ (by decide +kernel)) ggX11_manyAlike_X8_countAlike
set_option maxRecDepth 20000 in
theorem ggX11_manyAlike_X11_granted : GoodIn wsX11_manyAlike wsX11_granted := goodIn_r _ [63, 11, 64, 65, 66, 67, 68, 69, 70, 71, 72, 73, 74, 75] (by decide +kernel) (by decide +kernel)
set_option maxRecDepth 20000 in
theorem gX11_manyAlike_X11_granted : GoodIn wsX11_manyAlike (wsV RX11 114 RX11 yX11_granted wsX11_granted) := goodIn_app (goodIn_of _ (by decide +kernel)) ggX11_manyAlike_X11_granted
theorem dX11_manyAlike_0 : decode cX11_manyAlike 0 = .ok (.aload_n 0, 1) := by decide +kernel
theorem dX11_manyAlike_1 : decode cX11_manyAlike 1 = .ok (.iload_n 1, 1) := by decide +kernel
theorem dX11_manyAlike_2 : decode cX11_manyAlike 2 = .ok (.invokevirtual 121, 3) := by decide +kernel
theorem dX11_manyAlike_5 : decode cX11_manyAlike 5 = .ok (.ifCond .eq 10, 3) := by decide +kernel
theorem dX11_manyAlike_8 : decode cX11_manyAlike 8 = .ok (.aload_n 0, 1) := by decide +kernel
theorem dX11_manyAlike_9 : decode cX11_manyAlike 9 = .ok (.iconst 1, 1) := by decide +kernel
theorem dX11_manyAlike_10 : decode cX11_manyAlike 10 = .ok (.iconst (-1), 1) := by decide +kernel
theorem dX11_manyAlike_11 : decode cX11_manyAlike 11 = .ok (.invokevirtual 82, 3) := by decide +kernel
theorem dX11_manyAlike_14 : decode cX11_manyAlike 14 = .ok (.ireturn, 1) := by decide +kernel
theorem dX11_manyAlike_15 : decode cX11_manyAlike 15 = .ok (.iload_n 2, 1) := by decide +kernel
theorem dX11_manyAlike_16 : decode cX11_manyAlike 16 = .ok (.invokestatic 200, 3) := by decide +kernel
theorem dX11_manyAlike_19 : decode cX11_manyAlike 19 = .ok (.ifCond .eq 10, 3) := by decide +kernel
theorem dX11_manyAlike_22 : decode cX11_manyAlike 22 = .ok (.aload_n 0, 1) := by decide +kernel
theorem dX11_manyAlike_23 : decode cX11_manyAlike 23 = .ok (.iconst 2, 1) := by decide +kernel
theorem dX11_manyAlike_24 : decode cX11_manyAlike 24 = .ok (.iconst (-1), 1) := by decide +kernel
theorem dX11_manyAlike_25 : decode cX11_manyAlike 25 = .ok (.invokevirtual 82, 3) := by decide +kernel
theorem dX11_manyAlike_28 : decode cX11_manyAlike 28 = .ok (.ireturn, 1) := by decide +kernel
theorem dX11_manyAlike_29 : decode cX11_manyAlike 29 = .ok (.aload_n 0, 1) := by decide +kernel
theorem dX11_manyAlike_30 : decode cX11_manyAlike 30 = .ok (.aload_n 0, 1) := by decide +kernel
theorem dX11_manyAlike_31 : decode cX11_manyAlike 31 = .ok (.getfield 28, 3) := by decide +kernel
theorem dX11_manyAlike_34 : decode cX11_manyAlike 34 = .ok (.iload_n 1, 1) := by decide +kernel
theorem dX11_manyAlike_35 : decode cX11_manyAlike 35 = .ok (.invokevirtual 124, 3) := by decide +kernel
theorem dX11_manyAlike_38 : decode cX11_manyAlike 38 = .ok (.aload_n 0, 1) := by decide +kernel
theorem dX11_manyAlike_39 : decode cX11_manyAlike 39 = .ok (.getfield 28, 3) := by decide +kernel
theorem dX11_manyAlike_42 : decode cX11_manyAlike 42 = .ok (.iload_n 1, 1) := by decide +kernel
theorem dX11_manyAlike_43 : decode cX11_manyAlike 43 = .ok (.invokevirtual 127, 3) := by decide +kernel
theorem dX11_manyAlike_46 : decode cX11_manyAlike 46 = .ok (.iload_n 2, 1) := by decide +kernel
theorem dX11_manyAlike_47 : decode cX11_manyAlike 47 = .ok (.invokestatic 215, 3) := by decide +kernel
theorem dX11_manyAlike_50 : decode cX11_manyAlike 50 = .ok (.invokevirtual 114, 3) := by decide +kernel
theorem dX11_manyAlike_53 : decode cX11_manyAlike 53 = .ok (.ireturn, 1) := by decide +kernel
theorem dX11_isNoHow_0 : decode cX11_isNoHow 0 = .ok (.iload_n 0, 1) := by decide +kernel
theorem dX11_isNoHow_1 : decode cX11_isNoHow 1 = .ok (.ifCond .lt 8, 3) := by decide +kernel
theorem dX11_isNoHow_4 : decode cX11_isNoHow 4 = .ok (.iload_n 0, 1) := by decide +kernel
theorem dX11_isNoHow_5 : decode cX11_isNoHow 5 = .ok (.iconst 3, 1) := by decide +kernel
theorem dX11_isNoHow_6 : decode cX11_isNoHow 6 = .ok (.if_icmp .le 7, 3) := by decide +kernel
theorem dX11_isNoHow_9 : decode cX11_isNoHow 9 = .ok (.iconst 1, 1) := by decide +kernel
theorem dX11_isNoHow_10 : decode cX11_isNoHow 10 = .ok (.goto 4, 3) := by decide +kernel
theorem dX11_isNoHow_13 : decode cX11_isNoHow 13 = .ok (.iconst 0, 1) := by decide +kernel
theorem dX11_isNoHow_14 : decode cX11_isNoHow 14 = .ok (.ireturn, 1) := by decide +kernel
set_option maxRecDepth 20000 in
theorem ggX11_slips_X11_lacks : GoodIn wsX11_slips wsX11_lacks := goodIn_r _ [6, 1, 65, 66, 67, 68, 69, 70, 71, 72, 73, 74, 75, 76, 77, 78, 79] (by decide +kernel) (by decide +kernel)
set_option maxRecDepth 20000 in
theorem gX11_slips_X11_lacks : GoodIn wsX11_slips (wsV RX11 121 RX11 yX11_lacks wsX11_lacks) := goodIn_app (goodIn_of _ (by decide +kernel)) ggX11_slips_X11_lacks
set_option maxRecDepth 20000 in
theorem ggX11_slips_X11_refused : GoodIn wsX11_slips wsX11_refused := goodIn_r _ [10, 11, 65, 66, 67, 68, 69, 70, 71, 72, 73, 74, 75, 76] (by decide +kernel) (by decide +kernel)
set_option maxRecDepth 20000 in
theorem gX11_slips_X11_refused : GoodIn wsX11_slips (wsV RX11 82 RX11 yX11_refused wsX11_refused) := goodIn_app (goodIn_of _ (by decide +kernel)) ggX11_slips_X11_refused
set_option maxRecDepth 20000 in
theorem ggX11_slips_X11_isNoHow : GoodIn wsX11_slips wsX11_isNoHow := goodIn_r _ [14] (by decide +kernel) (by decide +kernel)
set_option maxRecDepth 20000 in
theorem gX11_slips_X11_isNoHow : GoodIn wsX11_slips (va_wsS RX11 200 yX11_isNoHow wsX11_isNoHow) := goodIn_app (goodIn_of _ (by decide +kernel)) ggX11_slips_X11_isNoHow
set_option maxRecDepth 20000 in
theorem ggX11_slips_X9_steps : GoodIn wsX11_slips wsX9_steps := goodIn_r _ [19, 20, 21, 5, 22, 77, 78, 79] (by decide +kernel) (by decide +kernel)
set_option maxRecDepth 20000 in
theorem gX11_slips_X9_steps : GoodIn wsX11_slips (wsV RX11 127 RX9 yX9_steps wsX9_steps) := goodIn_app (goodIn_of _ (by decide +kernel)) ggX11_slips_X9_steps
set_option maxRecDepth 20000 in
theorem ggX11_slips_X11_granted : GoodIn wsX11_slips wsX11_granted := goodIn_r _ [26, 11, 65, 66, 67, 68, 69, 70, 71, 72, 73, 74, 75, 76] (by decide +kernel) (by decide +kernel)
set_option maxRecDepth 20000 in
theorem gX11_slips_X11_granted : GoodIn wsX11_slips (wsV RX11 114 RX11 yX11_granted wsX11_granted) := goodIn_app (goodIn_of _ (by decide +kernel)) ggX11_slips_X11_granted
set_option maxRecDepth 20000 in
theorem ggX11_slips_X9_row : GoodIn wsX11_slips wsX9_row := goodIn_r _ [30, 31, 21, 5, 22, 77, 78, 79] (by decide +kernel) (by decide +kernel)
set_option maxRecDepth 20000 in
theorem gX11_slips_X9_row : GoodIn wsX11_slips (wsV RX11 124 RX9 yX9_row wsX9_row) := goodIn_app (goodIn_of _ (by decide +kernel)) ggX11_slips_X9_row
set_option maxRecDepth 20000 in
theorem ggX11_slips_X8_fewestSlips : GoodIn wsX11_slips wsX8_fewestSlips := goodIn_r _ [35, 36, 37, 38, 39, 40, 41, 34, 42, 43, 44, 45, 46, 47, 48, 49, 50, 51, 52, 53, 54, 55, 56, 57, 58, 59, 60, 61, 62, 63, 64] (by decide +kernel) (by decide +kernel)
set_option maxRecDepth 20000 in
theorem gX11_slips_X8_fewestSlips : GoodIn wsX11_slips (va_wsS RX11 218 yX8_fewestSlips wsX8_fewestSlips) := goodIn_app (goodIn_of _ (by decide +kernel)) ggX11_slips_X8_fewestSlips
theorem dX11_slips_0 : decode cX11_slips 0 = .ok (.aload_n 0, 1) := by decide +kernel
theorem dX11_slips_1 : decode cX11_slips 1 = .ok (.iload_n 1, 1) := by decide +kernel
theorem dX11_slips_2 : decode cX11_slips 2 = .ok (.invokevirtual 121, 3) := by decide +kernel
theorem dX11_slips_5 : decode cX11_slips 5 = .ok (.ifCond .ne 11, 3) := by decide +kernel
theorem dX11_slips_8 : decode cX11_slips 8 = .ok (.aload_n 0, 1) := by decide +kernel
theorem dX11_slips_9 : decode cX11_slips 9 = .ok (.iload_n 2, 1) := by decide +kernel
theorem dX11_slips_10 : decode cX11_slips 10 = .ok (.invokevirtual 121, 3) := by decide +kernel
theorem dX11_slips_13 : decode cX11_slips 13 = .ok (.ifCond .eq 10, 3) := by decide +kernel
theorem dX11_slips_16 : decode cX11_slips 16 = .ok (.aload_n 0, 1) := by decide +kernel
theorem dX11_slips_17 : decode cX11_slips 17 = .ok (.iconst 1, 1) := by decide +kernel
theorem dX11_slips_18 : decode cX11_slips 18 = .ok (.iconst (-1), 1) := by decide +kernel
theorem dX11_slips_19 : decode cX11_slips 19 = .ok (.invokevirtual 82, 3) := by decide +kernel
theorem dX11_slips_22 : decode cX11_slips 22 = .ok (.ireturn, 1) := by decide +kernel
theorem dX11_slips_23 : decode cX11_slips 23 = .ok (.iload_n 3, 1) := by decide +kernel
theorem dX11_slips_24 : decode cX11_slips 24 = .ok (.invokestatic 200, 3) := by decide +kernel
theorem dX11_slips_27 : decode cX11_slips 27 = .ok (.ifCond .eq 10, 3) := by decide +kernel
theorem dX11_slips_30 : decode cX11_slips 30 = .ok (.aload_n 0, 1) := by decide +kernel
theorem dX11_slips_31 : decode cX11_slips 31 = .ok (.iconst 2, 1) := by decide +kernel
theorem dX11_slips_32 : decode cX11_slips 32 = .ok (.iconst (-1), 1) := by decide +kernel
theorem dX11_slips_33 : decode cX11_slips 33 = .ok (.invokevirtual 82, 3) := by decide +kernel
theorem dX11_slips_36 : decode cX11_slips 36 = .ok (.ireturn, 1) := by decide +kernel
theorem dX11_slips_37 : decode cX11_slips 37 = .ok (.aload_n 0, 1) := by decide +kernel
theorem dX11_slips_38 : decode cX11_slips 38 = .ok (.getfield 28, 3) := by decide +kernel
theorem dX11_slips_41 : decode cX11_slips 41 = .ok (.iload_n 1, 1) := by decide +kernel
theorem dX11_slips_42 : decode cX11_slips 42 = .ok (.invokevirtual 127, 3) := by decide +kernel
theorem dX11_slips_45 : decode cX11_slips 45 = .ok (.istore 4, 2) := by decide +kernel
theorem dX11_slips_47 : decode cX11_slips 47 = .ok (.iload 4, 2) := by decide +kernel
theorem dX11_slips_49 : decode cX11_slips 49 = .ok (.aload_n 0, 1) := by decide +kernel
theorem dX11_slips_50 : decode cX11_slips 50 = .ok (.getfield 28, 3) := by decide +kernel
theorem dX11_slips_53 : decode cX11_slips 53 = .ok (.iload_n 2, 1) := by decide +kernel
theorem dX11_slips_54 : decode cX11_slips 54 = .ok (.invokevirtual 127, 3) := by decide +kernel
theorem dX11_slips_57 : decode cX11_slips 57 = .ok (.if_icmp .eq 10, 3) := by decide +kernel
theorem dX11_slips_60 : decode cX11_slips 60 = .ok (.aload_n 0, 1) := by decide +kernel
theorem dX11_slips_61 : decode cX11_slips 61 = .ok (.bipush (-2), 2) := by decide +kernel
theorem dX11_slips_63 : decode cX11_slips 63 = .ok (.invokevirtual 114, 3) := by decide +kernel
theorem dX11_slips_66 : decode cX11_slips 66 = .ok (.ireturn, 1) := by decide +kernel
theorem dX11_slips_67 : decode cX11_slips 67 = .ok (.aload_n 0, 1) := by decide +kernel
theorem dX11_slips_68 : decode cX11_slips 68 = .ok (.aload_n 0, 1) := by decide +kernel
theorem dX11_slips_69 : decode cX11_slips 69 = .ok (.getfield 28, 3) := by decide +kernel
theorem dX11_slips_72 : decode cX11_slips 72 = .ok (.iload_n 1, 1) := by decide +kernel
theorem dX11_slips_73 : decode cX11_slips 73 = .ok (.invokevirtual 124, 3) := by decide +kernel
theorem dX11_slips_76 : decode cX11_slips 76 = .ok (.aload_n 0, 1) := by decide +kernel
theorem dX11_slips_77 : decode cX11_slips 77 = .ok (.getfield 28, 3) := by decide +kernel
theorem dX11_slips_80 : decode cX11_slips 80 = .ok (.iload_n 2, 1) := by decide +kernel
theorem dX11_slips_81 : decode cX11_slips 81 = .ok (.invokevirtual 124, 3) := by decide +kernel
theorem dX11_slips_84 : decode cX11_slips 84 = .ok (.iload 4, 2) := by decide +kernel
theorem dX11_slips_86 : decode cX11_slips 86 = .ok (.iload_n 3, 1) := by decide +kernel
theorem dX11_slips_87 : decode cX11_slips 87 = .ok (.invokestatic 218, 3) := by decide +kernel
theorem dX11_slips_90 : decode cX11_slips 90 = .ok (.invokevirtual 114, 3) := by decide +kernel
theorem dX11_slips_93 : decode cX11_slips 93 = .ok (.ireturn, 1) := by decide +kernel
set_option maxRecDepth 20000 in
theorem ggX11_slipEnergy_X11_lacks : GoodIn wsX11_slipEnergy wsX11_lacks := goodIn_r _ [8, 2, 56, 57, 58, 59, 60, 61, 62, 63, 64, 65, 66, 67, 68, 69, 70] (by decide +kernel) (by decide +kernel)
set_option maxRecDepth 20000 in
theorem gX11_slipEnergy_X11_lacks : GoodIn wsX11_slipEnergy (wsV RX11 121 RX11 yX11_lacks wsX11_lacks) := goodIn_app (goodIn_of _ (by decide +kernel)) ggX11_slipEnergy_X11_lacks
set_option maxRecDepth 20000 in
theorem ggX11_slipEnergy_X11_refused : GoodIn wsX11_slipEnergy wsX11_refused := goodIn_r _ [12, 13, 56, 57, 58, 59, 60, 61, 62, 63, 64, 65, 66, 67] (by decide +kernel) (by decide +kernel)
set_option maxRecDepth 20000 in
theorem gX11_slipEnergy_X11_refused : GoodIn wsX11_slipEnergy (wsV RX11 82 RX11 yX11_refused wsX11_refused) := goodIn_app (goodIn_of _ (by decide +kernel)) ggX11_slipEnergy_X11_refused
set_option maxRecDepth 20000 in
theorem ggX11_slipEnergy_X9_steps : GoodIn wsX11_slipEnergy wsX9_steps := goodIn_r _ [18, 19, 20, 7, 21, 68, 69, 70] (by decide +kernel) (by decide +kernel)
set_option maxRecDepth 20000 in
theorem gX11_slipEnergy_X9_steps : GoodIn wsX11_slipEnergy (wsV RX11 127 RX9 yX9_steps wsX9_steps) := goodIn_app (goodIn_of _ (by decide +kernel)) ggX11_slipEnergy_X9_steps
set_option maxRecDepth 20000 in
theorem ggX11_slipEnergy_X9_row : GoodIn wsX11_slipEnergy wsX9_row := goodIn_r _ [25, 26, 20, 7, 21, 68, 69, 70] (by decide +kernel) (by decide +kernel)
set_option maxRecDepth 20000 in
theorem gX11_slipEnergy_X9_row : GoodIn wsX11_slipEnergy (wsV RX11 124 RX9 yX9_row wsX9_row) := goodIn_app (goodIn_of _ (by decide +kernel)) ggX11_slipEnergy_X9_row
set_option maxRecDepth 20000 in
theorem ggX11_slipEnergy_X8_bit : GoodIn wsX11_slipEnergy wsX8_bit := goodIn_r _ [30] (by decide +kernel) (by decide +kernel)
set_option maxRecDepth 20000 in
theorem gX11_slipEnergy_X8_bit : GoodIn wsX11_slipEnergy (va_wsS RX11 222 yX8_bit wsX8_bit) := goodIn_app (goodIn_of _ (by decide +kernel)) ggX11_slipEnergy_X8_bit
set_option maxRecDepth 20000 in
theorem ggX11_slipEnergy_X4_energyOf : GoodIn wsX11_slipEnergy wsX4_energyOf := goodIn_r _ [35, 36, 37, 38, 39, 40, 29, 41, 42, 43, 34, 44, 45, 46, 47, 48, 49, 50, 51, 71, 72, 73, 74, 75, 76, 77, 78, 79, 80, 81, 82, 83, 84] (by decide +kernel) (by decide +kernel)
set_option maxRecDepth 20000 in
theorem gX11_slipEnergy_X4_energyOf : GoodIn wsX11_slipEnergy (wsV RX11 169 RX4 yX4_energyOf wsX4_energyOf) := goodIn_app (goodIn_of _ (by decide +kernel)) ggX11_slipEnergy_X4_energyOf
set_option maxRecDepth 20000 in
theorem ggX11_slipEnergy_X11_granted : GoodIn wsX11_slipEnergy wsX11_granted := goodIn_r _ [55, 13, 56, 57, 58, 59, 60, 61, 62, 63, 64, 65, 66, 67] (by decide +kernel) (by decide +kernel)
set_option maxRecDepth 20000 in
theorem gX11_slipEnergy_X11_granted : GoodIn wsX11_slipEnergy (wsV RX11 114 RX11 yX11_granted wsX11_granted) := goodIn_app (goodIn_of _ (by decide +kernel)) ggX11_slipEnergy_X11_granted
theorem dX11_slipEnergy_0 : decode cX11_slipEnergy 0 = .ok (.aload_n 0, 1) := by decide +kernel
theorem dX11_slipEnergy_1 : decode cX11_slipEnergy 1 = .ok (.iload_n 1, 1) := by decide +kernel
theorem dX11_slipEnergy_2 : decode cX11_slipEnergy 2 = .ok (.invokevirtual 121, 3) := by decide +kernel
theorem dX11_slipEnergy_5 : decode cX11_slipEnergy 5 = .ok (.ifCond .eq 11, 3) := by decide +kernel
theorem dX11_slipEnergy_8 : decode cX11_slipEnergy 8 = .ok (.aload_n 0, 1) := by decide +kernel
theorem dX11_slipEnergy_9 : decode cX11_slipEnergy 9 = .ok (.iconst 1, 1) := by decide +kernel
theorem dX11_slipEnergy_10 : decode cX11_slipEnergy 10 = .ok (.ldc 168, 2) := by decide +kernel
theorem dX11_slipEnergy_12 : decode cX11_slipEnergy 12 = .ok (.invokevirtual 82, 3) := by decide +kernel
theorem dX11_slipEnergy_15 : decode cX11_slipEnergy 15 = .ok (.ireturn, 1) := by decide +kernel
theorem dX11_slipEnergy_16 : decode cX11_slipEnergy 16 = .ok (.aload_n 0, 1) := by decide +kernel
theorem dX11_slipEnergy_17 : decode cX11_slipEnergy 17 = .ok (.getfield 28, 3) := by decide +kernel
theorem dX11_slipEnergy_20 : decode cX11_slipEnergy 20 = .ok (.iload_n 1, 1) := by decide +kernel
theorem dX11_slipEnergy_21 : decode cX11_slipEnergy 21 = .ok (.invokevirtual 127, 3) := by decide +kernel
theorem dX11_slipEnergy_24 : decode cX11_slipEnergy 24 = .ok (.istore_n 3, 1) := by decide +kernel
theorem dX11_slipEnergy_25 : decode cX11_slipEnergy 25 = .ok (.iload_n 2, 1) := by decide +kernel
theorem dX11_slipEnergy_26 : decode cX11_slipEnergy 26 = .ok (.ifCond .lt 8, 3) := by decide +kernel
theorem dX11_slipEnergy_29 : decode cX11_slipEnergy 29 = .ok (.iload_n 2, 1) := by decide +kernel
theorem dX11_slipEnergy_30 : decode cX11_slipEnergy 30 = .ok (.iload_n 3, 1) := by decide +kernel
theorem dX11_slipEnergy_31 : decode cX11_slipEnergy 31 = .ok (.if_icmp .lt 11, 3) := by decide +kernel
theorem dX11_slipEnergy_34 : decode cX11_slipEnergy 34 = .ok (.aload_n 0, 1) := by decide +kernel
theorem dX11_slipEnergy_35 : decode cX11_slipEnergy 35 = .ok (.iconst 2, 1) := by decide +kernel
theorem dX11_slipEnergy_36 : decode cX11_slipEnergy 36 = .ok (.ldc 168, 2) := by decide +kernel
theorem dX11_slipEnergy_38 : decode cX11_slipEnergy 38 = .ok (.invokevirtual 82, 3) := by decide +kernel
theorem dX11_slipEnergy_41 : decode cX11_slipEnergy 41 = .ok (.ireturn, 1) := by decide +kernel
theorem dX11_slipEnergy_42 : decode cX11_slipEnergy 42 = .ok (.aload_n 0, 1) := by decide +kernel
theorem dX11_slipEnergy_43 : decode cX11_slipEnergy 43 = .ok (.aload_n 0, 1) := by decide +kernel
theorem dX11_slipEnergy_44 : decode cX11_slipEnergy 44 = .ok (.getfield 63, 3) := by decide +kernel
theorem dX11_slipEnergy_47 : decode cX11_slipEnergy 47 = .ok (.aload_n 0, 1) := by decide +kernel
theorem dX11_slipEnergy_48 : decode cX11_slipEnergy 48 = .ok (.getfield 28, 3) := by decide +kernel
theorem dX11_slipEnergy_51 : decode cX11_slipEnergy 51 = .ok (.iload_n 1, 1) := by decide +kernel
theorem dX11_slipEnergy_52 : decode cX11_slipEnergy 52 = .ok (.invokevirtual 124, 3) := by decide +kernel
theorem dX11_slipEnergy_55 : decode cX11_slipEnergy 55 = .ok (.iload_n 3, 1) := by decide +kernel
theorem dX11_slipEnergy_56 : decode cX11_slipEnergy 56 = .ok (.iload_n 2, 1) := by decide +kernel
theorem dX11_slipEnergy_57 : decode cX11_slipEnergy 57 = .ok (.invokestatic 222, 3) := by decide +kernel
theorem dX11_slipEnergy_60 : decode cX11_slipEnergy 60 = .ok (.ixor, 1) := by decide +kernel
theorem dX11_slipEnergy_61 : decode cX11_slipEnergy 61 = .ok (.iload_n 3, 1) := by decide +kernel
theorem dX11_slipEnergy_62 : decode cX11_slipEnergy 62 = .ok (.invokevirtual 169, 3) := by decide +kernel
theorem dX11_slipEnergy_65 : decode cX11_slipEnergy 65 = .ok (.invokevirtual 114, 3) := by decide +kernel
theorem dX11_slipEnergy_68 : decode cX11_slipEnergy 68 = .ok (.ireturn, 1) := by decide +kernel
set_option maxRecDepth 20000 in
theorem ggX11_weakest_X11_lacks : GoodIn wsX11_weakest wsX11_lacks := goodIn_r _ [7, 2, 59, 60, 61, 62, 63, 64, 65, 66, 67, 68, 69, 70, 71, 72, 73] (by decide +kernel) (by decide +kernel)
set_option maxRecDepth 20000 in
theorem gX11_weakest_X11_lacks : GoodIn wsX11_weakest (wsV RX11 121 RX11 yX11_lacks wsX11_lacks) := goodIn_app (goodIn_of _ (by decide +kernel)) ggX11_weakest_X11_lacks
set_option maxRecDepth 20000 in
theorem ggX11_weakest_X11_refused : GoodIn wsX11_weakest wsX11_refused := goodIn_r _ [11, 12, 59, 60, 61, 62, 63, 64, 65, 66, 67, 68, 69, 70] (by decide +kernel) (by decide +kernel)
set_option maxRecDepth 20000 in
theorem gX11_weakest_X11_refused : GoodIn wsX11_weakest (wsV RX11 82 RX11 yX11_refused wsX11_refused) := goodIn_app (goodIn_of _ (by decide +kernel)) ggX11_weakest_X11_refused
set_option maxRecDepth 20000 in
theorem ggX11_weakest_X9_row : GoodIn wsX11_weakest wsX9_row := goodIn_r _ [17, 18, 19, 6, 20, 71, 72, 73] (by decide +kernel) (by decide +kernel)
set_option maxRecDepth 20000 in
theorem gX11_weakest_X9_row : GoodIn wsX11_weakest (wsV RX11 124 RX9 yX9_row wsX9_row) := goodIn_app (goodIn_of _ (by decide +kernel)) ggX11_weakest_X9_row
set_option maxRecDepth 20000 in
theorem ggX11_weakest_X9_steps : GoodIn wsX11_weakest wsX9_steps := goodIn_r _ [24, 25, 19, 6, 20, 71, 72, 73] (by decide +kernel) (by decide +kernel)
set_option maxRecDepth 20000 in
theorem gX11_weakest_X9_steps : GoodIn wsX11_weakest (wsV RX11 127 RX9 yX9_steps wsX9_steps) := goodIn_app (goodIn_of _ (by decide +kernel)) ggX11_weakest_X9_steps
set_option maxRecDepth 20000 in
theorem ggX11_weakest_X4_weakestStep : GoodIn wsX11_weakest wsX4_weakestStep := goodIn_r _ [30, 31, 32, 33, 34, 35, 36, 37, 29, 38, 39, 40, 41, 42, 43, 44, 45, 46, 47, 48, 49, 50, 51, 52, 53, 54, 74, 75, 76, 77, 78, 79, 80, 81, 82, 83, 84, 85, 86, 87] (by decide +kernel) (by decide +kernel)
set_option maxRecDepth 20000 in
theorem gX11_weakest_X4_weakestStep : GoodIn wsX11_weakest (wsV RX11 225 RX4 yX4_weakestStep wsX4_weakestStep) := goodIn_app (goodIn_of _ (by decide +kernel)) ggX11_weakest_X4_weakestStep
set_option maxRecDepth 20000 in
theorem ggX11_weakest_X11_granted : GoodIn wsX11_weakest wsX11_granted := goodIn_r _ [58, 12, 59, 60, 61, 62, 63, 64, 65, 66, 67, 68, 69, 70] (by decide +kernel) (by decide +kernel)
set_option maxRecDepth 20000 in
theorem gX11_weakest_X11_granted : GoodIn wsX11_weakest (wsV RX11 114 RX11 yX11_granted wsX11_granted) := goodIn_app (goodIn_of _ (by decide +kernel)) ggX11_weakest_X11_granted
theorem dX11_weakest_0 : decode cX11_weakest 0 = .ok (.aload_n 0, 1) := by decide +kernel
theorem dX11_weakest_1 : decode cX11_weakest 1 = .ok (.iload_n 1, 1) := by decide +kernel
theorem dX11_weakest_2 : decode cX11_weakest 2 = .ok (.invokevirtual 121, 3) := by decide +kernel
theorem dX11_weakest_5 : decode cX11_weakest 5 = .ok (.ifCond .eq 10, 3) := by decide +kernel
theorem dX11_weakest_8 : decode cX11_weakest 8 = .ok (.aload_n 0, 1) := by decide +kernel
theorem dX11_weakest_9 : decode cX11_weakest 9 = .ok (.iconst 1, 1) := by decide +kernel
theorem dX11_weakest_10 : decode cX11_weakest 10 = .ok (.iconst (-1), 1) := by decide +kernel
theorem dX11_weakest_11 : decode cX11_weakest 11 = .ok (.invokevirtual 82, 3) := by decide +kernel
theorem dX11_weakest_14 : decode cX11_weakest 14 = .ok (.ireturn, 1) := by decide +kernel
theorem dX11_weakest_15 : decode cX11_weakest 15 = .ok (.aload_n 0, 1) := by decide +kernel
theorem dX11_weakest_16 : decode cX11_weakest 16 = .ok (.aload_n 0, 1) := by decide +kernel
theorem dX11_weakest_17 : decode cX11_weakest 17 = .ok (.getfield 63, 3) := by decide +kernel
theorem dX11_weakest_20 : decode cX11_weakest 20 = .ok (.aload_n 0, 1) := by decide +kernel
theorem dX11_weakest_21 : decode cX11_weakest 21 = .ok (.getfield 28, 3) := by decide +kernel
theorem dX11_weakest_24 : decode cX11_weakest 24 = .ok (.iload_n 1, 1) := by decide +kernel
theorem dX11_weakest_25 : decode cX11_weakest 25 = .ok (.invokevirtual 124, 3) := by decide +kernel
theorem dX11_weakest_28 : decode cX11_weakest 28 = .ok (.aload_n 0, 1) := by decide +kernel
theorem dX11_weakest_29 : decode cX11_weakest 29 = .ok (.getfield 28, 3) := by decide +kernel
theorem dX11_weakest_32 : decode cX11_weakest 32 = .ok (.iload_n 1, 1) := by decide +kernel
theorem dX11_weakest_33 : decode cX11_weakest 33 = .ok (.invokevirtual 127, 3) := by decide +kernel
theorem dX11_weakest_36 : decode cX11_weakest 36 = .ok (.invokevirtual 225, 3) := by decide +kernel
theorem dX11_weakest_39 : decode cX11_weakest 39 = .ok (.invokevirtual 114, 3) := by decide +kernel
theorem dX11_weakest_42 : decode cX11_weakest 42 = .ok (.ireturn, 1) := by decide +kernel
set_option maxRecDepth 20000 in
theorem ggX11_relax_X11_lacks : GoodIn wsX11_relax wsX11_lacks := goodIn_r _ [8, 3, 69, 70, 71, 72, 73, 74, 75, 76, 77, 78, 79, 80, 90, 91, 92] (by decide +kernel) (by decide +kernel)
set_option maxRecDepth 20000 in
theorem gX11_relax_X11_lacks : GoodIn wsX11_relax (wsV RX11 121 RX11 yX11_lacks wsX11_lacks) := goodIn_app (goodIn_of _ (by decide +kernel)) ggX11_relax_X11_lacks
set_option maxRecDepth 20000 in
theorem ggX11_relax_X11_refused : GoodIn wsX11_relax wsX11_refused := goodIn_r _ [12, 13, 69, 70, 71, 72, 73, 74, 75, 76, 77, 78, 79, 80] (by decide +kernel) (by decide +kernel)
set_option maxRecDepth 20000 in
theorem gX11_relax_X11_refused : GoodIn wsX11_relax (wsV RX11 82 RX11 yX11_refused wsX11_refused) := goodIn_app (goodIn_of _ (by decide +kernel)) ggX11_relax_X11_refused
set_option maxRecDepth 20000 in
theorem ggX11_relax_X9_row : GoodIn wsX11_relax wsX9_row := goodIn_r _ [18, 19, 20, 7, 21, 90, 91, 92] (by decide +kernel) (by decide +kernel)
set_option maxRecDepth 20000 in
theorem gX11_relax_X9_row : GoodIn wsX11_relax (wsV RX11 124 RX9 yX9_row wsX9_row) := goodIn_app (goodIn_of _ (by decide +kernel)) ggX11_relax_X9_row
set_option maxRecDepth 20000 in
theorem ggX11_relax_X9_steps : GoodIn wsX11_relax wsX9_steps := goodIn_r _ [25, 26, 20, 7, 21, 90, 91, 92] (by decide +kernel) (by decide +kernel)
set_option maxRecDepth 20000 in
theorem gX11_relax_X9_steps : GoodIn wsX11_relax (wsV RX11 127 RX9 yX9_steps wsX9_steps) := goodIn_app (goodIn_of _ (by decide +kernel)) ggX11_relax_X9_steps
set_option maxRecDepth 20000 in
theorem ggX11_relax_X5_settle : GoodIn wsX11_relax wsX5_settle := goodIn_r _ [31, 32, 33, 34, 35, 36, 37, 38, 39, 40, 41, 42, 43, 44, 45, 46, 47, 48, 49, 50, 51, 52, 53, 54, 55, 56, 57, 58, 59, 60, 61, 62, 63, 64, 81, 82, 83, 84, 85, 86, 87, 88, 89, 93, 94, 95, 96, 97, 98, 99, 100, 101, 102, 103, 104, 105, 106] (by decide +kernel) (by decide +kernel)
set_option maxRecDepth 20000 in
theorem gX11_relax_X5_settle : GoodIn wsX11_relax (wsV RX11 228 RX5 yX5_settle wsX5_settle) := goodIn_app (goodIn_of _ (by decide +kernel)) ggX11_relax_X5_settle
set_option maxRecDepth 20000 in
theorem ggX11_relax_X11_granted : GoodIn wsX11_relax wsX11_granted := goodIn_r _ [68, 13, 69, 70, 71, 72, 73, 74, 75, 76, 77, 78, 79, 80] (by decide +kernel) (by decide +kernel)
set_option maxRecDepth 20000 in
theorem gX11_relax_X11_granted : GoodIn wsX11_relax (wsV RX11 114 RX11 yX11_granted wsX11_granted) := goodIn_app (goodIn_of _ (by decide +kernel)) ggX11_relax_X11_granted
theorem dX11_relax_0 : decode cX11_relax 0 = .ok (.aload_n 0, 1) := by decide +kernel
theorem dX11_relax_1 : decode cX11_relax 1 = .ok (.iload_n 1, 1) := by decide +kernel
theorem dX11_relax_2 : decode cX11_relax 2 = .ok (.invokevirtual 121, 3) := by decide +kernel
theorem dX11_relax_5 : decode cX11_relax 5 = .ok (.ifCond .eq 10, 3) := by decide +kernel
theorem dX11_relax_8 : decode cX11_relax 8 = .ok (.aload_n 0, 1) := by decide +kernel
theorem dX11_relax_9 : decode cX11_relax 9 = .ok (.iconst 1, 1) := by decide +kernel
theorem dX11_relax_10 : decode cX11_relax 10 = .ok (.iconst (-1), 1) := by decide +kernel
theorem dX11_relax_11 : decode cX11_relax 11 = .ok (.invokevirtual 82, 3) := by decide +kernel
theorem dX11_relax_14 : decode cX11_relax 14 = .ok (.ireturn, 1) := by decide +kernel
theorem dX11_relax_15 : decode cX11_relax 15 = .ok (.aload_n 0, 1) := by decide +kernel
theorem dX11_relax_16 : decode cX11_relax 16 = .ok (.getfield 56, 3) := by decide +kernel
theorem dX11_relax_19 : decode cX11_relax 19 = .ok (.aload_n 0, 1) := by decide +kernel
theorem dX11_relax_20 : decode cX11_relax 20 = .ok (.getfield 63, 3) := by decide +kernel
theorem dX11_relax_23 : decode cX11_relax 23 = .ok (.aload_n 0, 1) := by decide +kernel
theorem dX11_relax_24 : decode cX11_relax 24 = .ok (.getfield 28, 3) := by decide +kernel
theorem dX11_relax_27 : decode cX11_relax 27 = .ok (.iload_n 1, 1) := by decide +kernel
theorem dX11_relax_28 : decode cX11_relax 28 = .ok (.invokevirtual 124, 3) := by decide +kernel
theorem dX11_relax_31 : decode cX11_relax 31 = .ok (.aload_n 0, 1) := by decide +kernel
theorem dX11_relax_32 : decode cX11_relax 32 = .ok (.getfield 28, 3) := by decide +kernel
theorem dX11_relax_35 : decode cX11_relax 35 = .ok (.iload_n 1, 1) := by decide +kernel
theorem dX11_relax_36 : decode cX11_relax 36 = .ok (.invokevirtual 127, 3) := by decide +kernel
theorem dX11_relax_39 : decode cX11_relax 39 = .ok (.invokevirtual 228, 3) := by decide +kernel
theorem dX11_relax_42 : decode cX11_relax 42 = .ok (.aload_n 0, 1) := by decide +kernel
theorem dX11_relax_43 : decode cX11_relax 43 = .ok (.aload_n 0, 1) := by decide +kernel
theorem dX11_relax_44 : decode cX11_relax 44 = .ok (.getfield 56, 3) := by decide +kernel
theorem dX11_relax_47 : decode cX11_relax 47 = .ok (.getfield 232, 3) := by decide +kernel
theorem dX11_relax_50 : decode cX11_relax 50 = .ok (.invokevirtual 114, 3) := by decide +kernel
theorem dX11_relax_53 : decode cX11_relax 53 = .ok (.ireturn, 1) := by decide +kernel
set_option maxRecDepth 20000 in
theorem ggX11_relaxed_X11_lacks : GoodIn wsX11_relaxed wsX11_lacks := goodIn_r _ [8, 3, 69, 70, 71, 72, 73, 74, 75, 76, 77, 78, 79, 80, 90, 91, 92] (by decide +kernel) (by decide +kernel)
set_option maxRecDepth 20000 in
theorem gX11_relaxed_X11_lacks : GoodIn wsX11_relaxed (wsV RX11 121 RX11 yX11_lacks wsX11_lacks) := goodIn_app (goodIn_of _ (by decide +kernel)) ggX11_relaxed_X11_lacks
set_option maxRecDepth 20000 in
theorem ggX11_relaxed_X11_refused : GoodIn wsX11_relaxed wsX11_refused := goodIn_r _ [12, 13, 69, 70, 71, 72, 73, 74, 75, 76, 77, 78, 79, 80] (by decide +kernel) (by decide +kernel)
set_option maxRecDepth 20000 in
theorem gX11_relaxed_X11_refused : GoodIn wsX11_relaxed (wsV RX11 82 RX11 yX11_refused wsX11_refused) := goodIn_app (goodIn_of _ (by decide +kernel)) ggX11_relaxed_X11_refused
set_option maxRecDepth 20000 in
theorem ggX11_relaxed_X9_row : GoodIn wsX11_relaxed wsX9_row := goodIn_r _ [18, 19, 20, 7, 21, 90, 91, 92] (by decide +kernel) (by decide +kernel)
set_option maxRecDepth 20000 in
theorem gX11_relaxed_X9_row : GoodIn wsX11_relaxed (wsV RX11 124 RX9 yX9_row wsX9_row) := goodIn_app (goodIn_of _ (by decide +kernel)) ggX11_relaxed_X9_row
set_option maxRecDepth 20000 in
theorem ggX11_relaxed_X9_steps : GoodIn wsX11_relaxed wsX9_steps := goodIn_r _ [25, 26, 20, 7, 21, 90, 91, 92] (by decide +kernel) (by decide +kernel)
set_option maxRecDepth 20000 in
theorem gX11_relaxed_X9_steps : GoodIn wsX11_relaxed (wsV RX11 127 RX9 yX9_steps wsX9_steps) := goodIn_app (goodIn_of _ (by decide +kernel)) ggX11_relaxed_X9_steps
set_option maxRecDepth 20000 in
theorem ggX11_relaxed_X5_settle : GoodIn wsX11_relaxed wsX5_settle := goodIn_r _ [31, 32, 33, 34, 35, 36, 37, 38, 39, 40, 41, 42, 43, 44, 45, 46, 47, 48, 49, 50, 51, 52, 53, 54, 55, 56, 57, 58, 59, 60, 61, 62, 63, 64, 81, 82, 83, 84, 85, 86, 87, 88, 89, 93, 94, 95, 96, 97, 98, 99, 100, 101, 102, 103, 104, 105, 106] (by decide +kernel) (by decide +kernel)
set_option maxRecDepth 20000 in
theorem gX11_relaxed_X5_settle : GoodIn wsX11_relaxed (wsV RX11 228 RX5 yX5_settle wsX5_settle) := goodIn_app (goodIn_of _ (by decide +kernel)) ggX11_relaxed_X5_settle
set_option maxRecDepth 20000 in
theorem ggX11_relaxed_X11_granted : GoodIn wsX11_relaxed wsX11_granted := goodIn_r _ [68, 13, 69, 70, 71, 72, 73, 74, 75, 76, 77, 78, 79, 80] (by decide +kernel) (by decide +kernel)
set_option maxRecDepth 20000 in
theorem gX11_relaxed_X11_granted : GoodIn wsX11_relaxed (wsV RX11 114 RX11 yX11_granted wsX11_granted) := goodIn_app (goodIn_of _ (by decide +kernel)) ggX11_relaxed_X11_granted
theorem dX11_relaxed_0 : decode cX11_relaxed 0 = .ok (.aload_n 0, 1) := by decide +kernel
theorem dX11_relaxed_1 : decode cX11_relaxed 1 = .ok (.iload_n 1, 1) := by decide +kernel
theorem dX11_relaxed_2 : decode cX11_relaxed 2 = .ok (.invokevirtual 121, 3) := by decide +kernel
theorem dX11_relaxed_5 : decode cX11_relaxed 5 = .ok (.ifCond .eq 10, 3) := by decide +kernel
theorem dX11_relaxed_8 : decode cX11_relaxed 8 = .ok (.aload_n 0, 1) := by decide +kernel
theorem dX11_relaxed_9 : decode cX11_relaxed 9 = .ok (.iconst 1, 1) := by decide +kernel
theorem dX11_relaxed_10 : decode cX11_relaxed 10 = .ok (.iconst (-1), 1) := by decide +kernel
theorem dX11_relaxed_11 : decode cX11_relaxed 11 = .ok (.invokevirtual 82, 3) := by decide +kernel
theorem dX11_relaxed_14 : decode cX11_relaxed 14 = .ok (.ireturn, 1) := by decide +kernel
theorem dX11_relaxed_15 : decode cX11_relaxed 15 = .ok (.aload_n 0, 1) := by decide +kernel
theorem dX11_relaxed_16 : decode cX11_relaxed 16 = .ok (.getfield 56, 3) := by decide +kernel
theorem dX11_relaxed_19 : decode cX11_relaxed 19 = .ok (.aload_n 0, 1) := by decide +kernel
theorem dX11_relaxed_20 : decode cX11_relaxed 20 = .ok (.getfield 63, 3) := by decide +kernel
theorem dX11_relaxed_23 : decode cX11_relaxed 23 = .ok (.aload_n 0, 1) := by decide +kernel
theorem dX11_relaxed_24 : decode cX11_relaxed 24 = .ok (.getfield 28, 3) := by decide +kernel
theorem dX11_relaxed_27 : decode cX11_relaxed 27 = .ok (.iload_n 1, 1) := by decide +kernel
theorem dX11_relaxed_28 : decode cX11_relaxed 28 = .ok (.invokevirtual 124, 3) := by decide +kernel
theorem dX11_relaxed_31 : decode cX11_relaxed 31 = .ok (.aload_n 0, 1) := by decide +kernel
theorem dX11_relaxed_32 : decode cX11_relaxed 32 = .ok (.getfield 28, 3) := by decide +kernel
theorem dX11_relaxed_35 : decode cX11_relaxed 35 = .ok (.iload_n 1, 1) := by decide +kernel
theorem dX11_relaxed_36 : decode cX11_relaxed 36 = .ok (.invokevirtual 127, 3) := by decide +kernel
theorem dX11_relaxed_39 : decode cX11_relaxed 39 = .ok (.invokevirtual 228, 3) := by decide +kernel
theorem dX11_relaxed_42 : decode cX11_relaxed 42 = .ok (.aload_n 0, 1) := by decide +kernel
theorem dX11_relaxed_43 : decode cX11_relaxed 43 = .ok (.aload_n 0, 1) := by decide +kernel
theorem dX11_relaxed_44 : decode cX11_relaxed 44 = .ok (.getfield 56, 3) := by decide +kernel
theorem dX11_relaxed_47 : decode cX11_relaxed 47 = .ok (.getfield 235, 3) := by decide +kernel
theorem dX11_relaxed_50 : decode cX11_relaxed 50 = .ok (.invokevirtual 114, 3) := by decide +kernel
theorem dX11_relaxed_53 : decode cX11_relaxed 53 = .ok (.ireturn, 1) := by decide +kernel
set_option maxRecDepth 20000 in
theorem ggX11_pass_X11_lacks : GoodIn wsX11_pass wsX11_lacks := goodIn_r _ [9, 2, 88, 89, 90, 91, 92, 93, 94, 95, 96, 97, 98, 99, 100, 101, 102] (by decide +kernel) (by decide +kernel)
set_option maxRecDepth 20000 in
theorem gX11_pass_X11_lacks : GoodIn wsX11_pass (wsV RX11 121 RX11 yX11_lacks wsX11_lacks) := goodIn_app (goodIn_of _ (by decide +kernel)) ggX11_pass_X11_lacks
set_option maxRecDepth 20000 in
theorem ggX11_pass_X11_refused : GoodIn wsX11_pass wsX11_refused := goodIn_r _ [13, 14, 88, 89, 90, 91, 92, 93, 94, 95, 96, 97, 98, 99] (by decide +kernel) (by decide +kernel)
set_option maxRecDepth 20000 in
theorem gX11_pass_X11_refused : GoodIn wsX11_pass (wsV RX11 82 RX11 yX11_refused wsX11_refused) := goodIn_app (goodIn_of _ (by decide +kernel)) ggX11_pass_X11_refused
set_option maxRecDepth 20000 in
theorem ggX11_pass_X9_steps : GoodIn wsX11_pass wsX9_steps := goodIn_r _ [19, 20, 21, 8, 22, 100, 101, 102] (by decide +kernel) (by decide +kernel)
set_option maxRecDepth 20000 in
theorem gX11_pass_X9_steps : GoodIn wsX11_pass (wsV RX11 127 RX9 yX9_steps wsX9_steps) := goodIn_app (goodIn_of _ (by decide +kernel)) ggX11_pass_X9_steps
set_option maxRecDepth 20000 in
theorem ggX11_pass_X5_survey : GoodIn wsX11_pass wsX5_survey := goodIn_r _ [27, 28, 29, 30, 31, 32, 33, 34, 35, 36, 37, 38, 39, 40, 41, 42, 43, 44, 45, 46, 47, 48, 49, 50, 51, 52, 53, 8, 54, 103, 104, 105, 106, 107, 108, 109, 110, 111, 112, 113, 114, 115, 116, 117, 118, 119, 120, 121, 122, 123, 124, 125] (by decide +kernel) (by decide +kernel)
set_option maxRecDepth 20000 in
theorem gX11_pass_X5_survey : GoodIn wsX11_pass (wsV RX11 187 RX5 yX5_survey wsX5_survey) := goodIn_app (goodIn_of _ (by decide +kernel)) ggX11_pass_X5_survey
set_option maxRecDepth 20000 in
theorem ggX11_pass_X9_row : GoodIn wsX11_pass wsX9_row := goodIn_r _ [58, 59, 21, 8, 22, 100, 101, 102] (by decide +kernel) (by decide +kernel)
set_option maxRecDepth 20000 in
theorem gX11_pass_X9_row : GoodIn wsX11_pass (wsV RX11 124 RX9 yX9_row wsX9_row) := goodIn_app (goodIn_of _ (by decide +kernel)) ggX11_pass_X9_row
set_option maxRecDepth 20000 in
theorem ggX11_pass_X5_lowestPass : GoodIn wsX11_pass wsX5_lowestPass := goodIn_r _ [63, 30, 64, 65, 66, 67, 68, 69, 21, 8, 22, 70, 71, 72, 26, 73, 74, 75, 28, 76, 77, 78, 79, 80, 81, 82, 83, 53, 54, 103, 104, 105, 106, 107, 108, 109, 110, 111] (by decide +kernel) (by decide +kernel)
set_option maxRecDepth 20000 in
theorem gX11_pass_X5_lowestPass : GoodIn wsX11_pass (wsV RX11 238 RX5 yX5_lowestPass wsX5_lowestPass) := goodIn_app (goodIn_of _ (by decide +kernel)) ggX11_pass_X5_lowestPass
set_option maxRecDepth 20000 in
theorem ggX11_pass_X11_granted : GoodIn wsX11_pass wsX11_granted := goodIn_r _ [87, 14, 88, 89, 90, 91, 92, 93, 94, 95, 96, 97, 98, 99] (by decide +kernel) (by decide +kernel)
set_option maxRecDepth 20000 in
theorem gX11_pass_X11_granted : GoodIn wsX11_pass (wsV RX11 114 RX11 yX11_granted wsX11_granted) := goodIn_app (goodIn_of _ (by decide +kernel)) ggX11_pass_X11_granted
theorem dX11_pass_0 : decode cX11_pass 0 = .ok (.aload_n 0, 1) := by decide +kernel
theorem dX11_pass_1 : decode cX11_pass 1 = .ok (.iload_n 1, 1) := by decide +kernel
theorem dX11_pass_2 : decode cX11_pass 2 = .ok (.invokevirtual 121, 3) := by decide +kernel
theorem dX11_pass_5 : decode cX11_pass 5 = .ok (.ifCond .ne 11, 3) := by decide +kernel
theorem dX11_pass_8 : decode cX11_pass 8 = .ok (.aload_n 0, 1) := by decide +kernel
theorem dX11_pass_9 : decode cX11_pass 9 = .ok (.iload_n 2, 1) := by decide +kernel
theorem dX11_pass_10 : decode cX11_pass 10 = .ok (.invokevirtual 121, 3) := by decide +kernel
theorem dX11_pass_13 : decode cX11_pass 13 = .ok (.ifCond .eq 11, 3) := by decide +kernel
theorem dX11_pass_16 : decode cX11_pass 16 = .ok (.aload_n 0, 1) := by decide +kernel
theorem dX11_pass_17 : decode cX11_pass 17 = .ok (.iconst 1, 1) := by decide +kernel
theorem dX11_pass_18 : decode cX11_pass 18 = .ok (.ldc 168, 2) := by decide +kernel
theorem dX11_pass_20 : decode cX11_pass 20 = .ok (.invokevirtual 82, 3) := by decide +kernel
theorem dX11_pass_23 : decode cX11_pass 23 = .ok (.ireturn, 1) := by decide +kernel
theorem dX11_pass_24 : decode cX11_pass 24 = .ok (.aload_n 0, 1) := by decide +kernel
theorem dX11_pass_25 : decode cX11_pass 25 = .ok (.getfield 28, 3) := by decide +kernel
theorem dX11_pass_28 : decode cX11_pass 28 = .ok (.iload_n 1, 1) := by decide +kernel
theorem dX11_pass_29 : decode cX11_pass 29 = .ok (.invokevirtual 127, 3) := by decide +kernel
theorem dX11_pass_32 : decode cX11_pass 32 = .ok (.istore_n 3, 1) := by decide +kernel
theorem dX11_pass_33 : decode cX11_pass 33 = .ok (.iload_n 3, 1) := by decide +kernel
theorem dX11_pass_34 : decode cX11_pass 34 = .ok (.aload_n 0, 1) := by decide +kernel
theorem dX11_pass_35 : decode cX11_pass 35 = .ok (.getfield 28, 3) := by decide +kernel
theorem dX11_pass_38 : decode cX11_pass 38 = .ok (.iload_n 2, 1) := by decide +kernel
theorem dX11_pass_39 : decode cX11_pass 39 = .ok (.invokevirtual 127, 3) := by decide +kernel
theorem dX11_pass_42 : decode cX11_pass 42 = .ok (.if_icmp .eq 11, 3) := by decide +kernel
theorem dX11_pass_45 : decode cX11_pass 45 = .ok (.aload_n 0, 1) := by decide +kernel
theorem dX11_pass_46 : decode cX11_pass 46 = .ok (.iconst 5, 1) := by decide +kernel
theorem dX11_pass_47 : decode cX11_pass 47 = .ok (.ldc 168, 2) := by decide +kernel
theorem dX11_pass_49 : decode cX11_pass 49 = .ok (.invokevirtual 82, 3) := by decide +kernel
theorem dX11_pass_52 : decode cX11_pass 52 = .ok (.ireturn, 1) := by decide +kernel
theorem dX11_pass_53 : decode cX11_pass 53 = .ok (.aload_n 0, 1) := by decide +kernel
theorem dX11_pass_54 : decode cX11_pass 54 = .ok (.getfield 56, 3) := by decide +kernel
theorem dX11_pass_57 : decode cX11_pass 57 = .ok (.aload_n 0, 1) := by decide +kernel
theorem dX11_pass_58 : decode cX11_pass 58 = .ok (.getfield 63, 3) := by decide +kernel
theorem dX11_pass_61 : decode cX11_pass 61 = .ok (.iload_n 3, 1) := by decide +kernel
theorem dX11_pass_62 : decode cX11_pass 62 = .ok (.invokevirtual 187, 3) := by decide +kernel
theorem dX11_pass_65 : decode cX11_pass 65 = .ok (.aload_n 0, 1) := by decide +kernel
theorem dX11_pass_66 : decode cX11_pass 66 = .ok (.aload_n 0, 1) := by decide +kernel
theorem dX11_pass_67 : decode cX11_pass 67 = .ok (.getfield 56, 3) := by decide +kernel
theorem dX11_pass_70 : decode cX11_pass 70 = .ok (.aload_n 0, 1) := by decide +kernel
theorem dX11_pass_71 : decode cX11_pass 71 = .ok (.getfield 28, 3) := by decide +kernel
theorem dX11_pass_74 : decode cX11_pass 74 = .ok (.iload_n 1, 1) := by decide +kernel
theorem dX11_pass_75 : decode cX11_pass 75 = .ok (.invokevirtual 124, 3) := by decide +kernel
theorem dX11_pass_78 : decode cX11_pass 78 = .ok (.aload_n 0, 1) := by decide +kernel
theorem dX11_pass_79 : decode cX11_pass 79 = .ok (.getfield 28, 3) := by decide +kernel
theorem dX11_pass_82 : decode cX11_pass 82 = .ok (.iload_n 2, 1) := by decide +kernel
theorem dX11_pass_83 : decode cX11_pass 83 = .ok (.invokevirtual 124, 3) := by decide +kernel
theorem dX11_pass_86 : decode cX11_pass 86 = .ok (.invokevirtual 238, 3) := by decide +kernel
theorem dX11_pass_89 : decode cX11_pass 89 = .ok (.invokevirtual 114, 3) := by decide +kernel
theorem dX11_pass_92 : decode cX11_pass 92 = .ok (.ireturn, 1) := by decide +kernel
set_option maxRecDepth 20000 in
theorem ggX11_valley_X11_lacks : GoodIn wsX11_valley wsX11_lacks := goodIn_r _ [8, 1, 81, 82, 83, 84, 85, 86, 87, 88, 89, 90, 91, 92, 93, 94, 95] (by decide +kernel) (by decide +kernel)
set_option maxRecDepth 20000 in
theorem gX11_valley_X11_lacks : GoodIn wsX11_valley (wsV RX11 121 RX11 yX11_lacks wsX11_lacks) := goodIn_app (goodIn_of _ (by decide +kernel)) ggX11_valley_X11_lacks
set_option maxRecDepth 20000 in
theorem ggX11_valley_X11_refused : GoodIn wsX11_valley wsX11_refused := goodIn_r _ [12, 13, 81, 82, 83, 84, 85, 86, 87, 88, 89, 90, 91, 92] (by decide +kernel) (by decide +kernel)
set_option maxRecDepth 20000 in
theorem gX11_valley_X11_refused : GoodIn wsX11_valley (wsV RX11 82 RX11 yX11_refused wsX11_refused) := goodIn_app (goodIn_of _ (by decide +kernel)) ggX11_valley_X11_refused
set_option maxRecDepth 20000 in
theorem ggX11_valley_X9_steps : GoodIn wsX11_valley wsX9_steps := goodIn_r _ [18, 19, 20, 7, 21, 93, 94, 95] (by decide +kernel) (by decide +kernel)
set_option maxRecDepth 20000 in
theorem gX11_valley_X9_steps : GoodIn wsX11_valley (wsV RX11 127 RX9 yX9_steps wsX9_steps) := goodIn_app (goodIn_of _ (by decide +kernel)) ggX11_valley_X9_steps
set_option maxRecDepth 20000 in
theorem ggX11_valley_X9_row : GoodIn wsX11_valley wsX9_row := goodIn_r _ [25, 26, 20, 7, 21, 93, 94, 95] (by decide +kernel) (by decide +kernel)
set_option maxRecDepth 20000 in
theorem gX11_valley_X9_row : GoodIn wsX11_valley (wsV RX11 124 RX9 yX9_row wsX9_row) := goodIn_app (goodIn_of _ (by decide +kernel)) ggX11_valley_X9_row
set_option maxRecDepth 20000 in
theorem ggX11_valley_X5_survey : GoodIn wsX11_valley wsX5_survey := goodIn_r _ [31, 32, 33, 34, 35, 36, 37, 38, 39, 40, 41, 42, 43, 44, 45, 46, 47, 48, 49, 50, 51, 52, 53, 54, 55, 56, 57, 7, 58, 96, 97, 98, 99, 100, 101, 102, 103, 104, 105, 106, 107, 108, 109, 110, 111, 112, 113, 114, 115, 116, 117, 118] (by decide +kernel) (by decide +kernel)
set_option maxRecDepth 20000 in
theorem gX11_valley_X5_survey : GoodIn wsX11_valley (wsV RX11 187 RX5 yX5_survey wsX5_survey) := goodIn_app (goodIn_of _ (by decide +kernel)) ggX11_valley_X5_survey
set_option maxRecDepth 20000 in
theorem ggX11_valley_X4_energyOf : GoodIn wsX11_valley wsX4_energyOf := goodIn_r _ [39, 40, 41, 42, 43, 44, 45, 46, 47, 48, 38, 49, 50, 51, 52, 53, 54, 55, 56, 105, 106, 107, 108, 109, 110, 111, 112, 113, 114, 115, 116, 117, 118] (by decide +kernel) (by decide +kernel)
set_option maxRecDepth 20000 in
theorem gX11_valley_X4_energyOf : GoodIn wsX11_valley (wsV RX11 169 RX4 yX4_energyOf wsX4_energyOf) := goodIn_app (goodIn_of _ (by decide +kernel)) ggX11_valley_X4_energyOf
set_option maxRecDepth 20000 in
theorem ggX11_valley_X5_flood : GoodIn wsX11_valley wsX5_flood := goodIn_r _ [63, 64, 65, 66, 67, 32, 68, 34, 69, 70, 71, 72, 73, 74, 75, 30, 76, 57, 7, 58, 20, 21, 96, 97, 98, 99, 100, 101, 102, 103, 104] (by decide +kernel) (by decide +kernel)
set_option maxRecDepth 20000 in
theorem gX11_valley_X5_flood : GoodIn wsX11_valley (wsV RX11 241 RX5 yX5_flood wsX5_flood) := goodIn_app (goodIn_of _ (by decide +kernel)) ggX11_valley_X5_flood
set_option maxRecDepth 20000 in
theorem ggX11_valley_X11_granted : GoodIn wsX11_valley wsX11_granted := goodIn_r _ [80, 13, 81, 82, 83, 84, 85, 86, 87, 88, 89, 90, 91, 92] (by decide +kernel) (by decide +kernel)
set_option maxRecDepth 20000 in
theorem gX11_valley_X11_granted : GoodIn wsX11_valley (wsV RX11 114 RX11 yX11_granted wsX11_granted) := goodIn_app (goodIn_of _ (by decide +kernel)) ggX11_valley_X11_granted
theorem dX11_valley_0 : decode cX11_valley 0 = .ok (.aload_n 0, 1) := by decide +kernel
theorem dX11_valley_1 : decode cX11_valley 1 = .ok (.iload_n 1, 1) := by decide +kernel
theorem dX11_valley_2 : decode cX11_valley 2 = .ok (.invokevirtual 121, 3) := by decide +kernel
theorem dX11_valley_5 : decode cX11_valley 5 = .ok (.ifCond .eq 10, 3) := by decide +kernel
theorem dX11_valley_8 : decode cX11_valley 8 = .ok (.aload_n 0, 1) := by decide +kernel
theorem dX11_valley_9 : decode cX11_valley 9 = .ok (.iconst 1, 1) := by decide +kernel
theorem dX11_valley_10 : decode cX11_valley 10 = .ok (.iconst (-1), 1) := by decide +kernel
theorem dX11_valley_11 : decode cX11_valley 11 = .ok (.invokevirtual 82, 3) := by decide +kernel
theorem dX11_valley_14 : decode cX11_valley 14 = .ok (.ireturn, 1) := by decide +kernel
theorem dX11_valley_15 : decode cX11_valley 15 = .ok (.aload_n 0, 1) := by decide +kernel
theorem dX11_valley_16 : decode cX11_valley 16 = .ok (.getfield 28, 3) := by decide +kernel
theorem dX11_valley_19 : decode cX11_valley 19 = .ok (.iload_n 1, 1) := by decide +kernel
theorem dX11_valley_20 : decode cX11_valley 20 = .ok (.invokevirtual 127, 3) := by decide +kernel
theorem dX11_valley_23 : decode cX11_valley 23 = .ok (.istore_n 2, 1) := by decide +kernel
theorem dX11_valley_24 : decode cX11_valley 24 = .ok (.aload_n 0, 1) := by decide +kernel
theorem dX11_valley_25 : decode cX11_valley 25 = .ok (.getfield 28, 3) := by decide +kernel
theorem dX11_valley_28 : decode cX11_valley 28 = .ok (.iload_n 1, 1) := by decide +kernel
theorem dX11_valley_29 : decode cX11_valley 29 = .ok (.invokevirtual 124, 3) := by decide +kernel
theorem dX11_valley_32 : decode cX11_valley 32 = .ok (.istore_n 3, 1) := by decide +kernel
theorem dX11_valley_33 : decode cX11_valley 33 = .ok (.aload_n 0, 1) := by decide +kernel
theorem dX11_valley_34 : decode cX11_valley 34 = .ok (.getfield 56, 3) := by decide +kernel
theorem dX11_valley_37 : decode cX11_valley 37 = .ok (.aload_n 0, 1) := by decide +kernel
theorem dX11_valley_38 : decode cX11_valley 38 = .ok (.getfield 63, 3) := by decide +kernel
theorem dX11_valley_41 : decode cX11_valley 41 = .ok (.iload_n 2, 1) := by decide +kernel
theorem dX11_valley_42 : decode cX11_valley 42 = .ok (.invokevirtual 187, 3) := by decide +kernel
theorem dX11_valley_45 : decode cX11_valley 45 = .ok (.aload_n 0, 1) := by decide +kernel
theorem dX11_valley_46 : decode cX11_valley 46 = .ok (.aload_n 0, 1) := by decide +kernel
theorem dX11_valley_47 : decode cX11_valley 47 = .ok (.getfield 56, 3) := by decide +kernel
theorem dX11_valley_50 : decode cX11_valley 50 = .ok (.iload_n 3, 1) := by decide +kernel
theorem dX11_valley_51 : decode cX11_valley 51 = .ok (.aload_n 0, 1) := by decide +kernel
theorem dX11_valley_52 : decode cX11_valley 52 = .ok (.getfield 63, 3) := by decide +kernel
theorem dX11_valley_55 : decode cX11_valley 55 = .ok (.iload_n 3, 1) := by decide +kernel
theorem dX11_valley_56 : decode cX11_valley 56 = .ok (.iload_n 2, 1) := by decide +kernel
theorem dX11_valley_57 : decode cX11_valley 57 = .ok (.invokevirtual 169, 3) := by decide +kernel
theorem dX11_valley_60 : decode cX11_valley 60 = .ok (.invokevirtual 241, 3) := by decide +kernel
theorem dX11_valley_63 : decode cX11_valley 63 = .ok (.invokevirtual 114, 3) := by decide +kernel
theorem dX11_valley_66 : decode cX11_valley 66 = .ok (.ireturn, 1) := by decide +kernel
set_option maxRecDepth 20000 in
theorem ggX11_faultEnergy_X11_lacks : GoodIn wsX11_faultEnergy wsX11_lacks := goodIn_r _ [8, 2, 59, 60, 61, 62, 63, 64, 65, 66, 67, 68, 69, 70, 71, 72, 73] (by decide +kernel) (by decide +kernel)
set_option maxRecDepth 20000 in
theorem gX11_faultEnergy_X11_lacks : GoodIn wsX11_faultEnergy (wsV RX11 121 RX11 yX11_lacks wsX11_lacks) := goodIn_app (goodIn_of _ (by decide +kernel)) ggX11_faultEnergy_X11_lacks
set_option maxRecDepth 20000 in
theorem ggX11_faultEnergy_X11_refused : GoodIn wsX11_faultEnergy wsX11_refused := goodIn_r _ [12, 13, 59, 60, 61, 62, 63, 64, 65, 66, 67, 68, 69, 70] (by decide +kernel) (by decide +kernel)
set_option maxRecDepth 20000 in
theorem gX11_faultEnergy_X11_refused : GoodIn wsX11_faultEnergy (wsV RX11 82 RX11 yX11_refused wsX11_refused) := goodIn_app (goodIn_of _ (by decide +kernel)) ggX11_faultEnergy_X11_refused
set_option maxRecDepth 20000 in
theorem ggX11_faultEnergy_X9_steps : GoodIn wsX11_faultEnergy wsX9_steps := goodIn_r _ [18, 19, 20, 7, 21, 71, 72, 73] (by decide +kernel) (by decide +kernel)
set_option maxRecDepth 20000 in
theorem gX11_faultEnergy_X9_steps : GoodIn wsX11_faultEnergy (wsV RX11 127 RX9 yX9_steps wsX9_steps) := goodIn_app (goodIn_of _ (by decide +kernel)) ggX11_faultEnergy_X9_steps
set_option maxRecDepth 20000 in
theorem ggX11_faultEnergy_X9_row : GoodIn wsX11_faultEnergy wsX9_row := goodIn_r _ [25, 26, 20, 7, 21, 71, 72, 73] (by decide +kernel) (by decide +kernel)
set_option maxRecDepth 20000 in
theorem gX11_faultEnergy_X9_row : GoodIn wsX11_faultEnergy (wsV RX11 124 RX9 yX9_row wsX9_row) := goodIn_app (goodIn_of _ (by decide +kernel)) ggX11_faultEnergy_X9_row
set_option maxRecDepth 20000 in
theorem ggX11_faultEnergy_X8_otherFrom : GoodIn wsX11_faultEnergy wsX8_otherFrom := goodIn_r _ [30, 31, 32, 29, 33] (by decide +kernel) (by decide +kernel)
set_option maxRecDepth 20000 in
theorem gX11_faultEnergy_X8_otherFrom : GoodIn wsX11_faultEnergy (va_wsS RX11 244 yX8_otherFrom wsX8_otherFrom) := goodIn_app (goodIn_of _ (by decide +kernel)) ggX11_faultEnergy_X8_otherFrom
set_option maxRecDepth 20000 in
theorem ggX11_faultEnergy_X4_energyOf : GoodIn wsX11_faultEnergy wsX4_energyOf := goodIn_r _ [38, 39, 40, 41, 42, 43, 29, 44, 45, 46, 37, 47, 48, 49, 50, 51, 52, 53, 54, 74, 75, 76, 77, 78, 79, 80, 81, 82, 83, 84, 85, 86, 87] (by decide +kernel) (by decide +kernel)
set_option maxRecDepth 20000 in
theorem gX11_faultEnergy_X4_energyOf : GoodIn wsX11_faultEnergy (wsV RX11 169 RX4 yX4_energyOf wsX4_energyOf) := goodIn_app (goodIn_of _ (by decide +kernel)) ggX11_faultEnergy_X4_energyOf
set_option maxRecDepth 20000 in
theorem ggX11_faultEnergy_X11_granted : GoodIn wsX11_faultEnergy wsX11_granted := goodIn_r _ [58, 13, 59, 60, 61, 62, 63, 64, 65, 66, 67, 68, 69, 70] (by decide +kernel) (by decide +kernel)
set_option maxRecDepth 20000 in
theorem gX11_faultEnergy_X11_granted : GoodIn wsX11_faultEnergy (wsV RX11 114 RX11 yX11_granted wsX11_granted) := goodIn_app (goodIn_of _ (by decide +kernel)) ggX11_faultEnergy_X11_granted
theorem dX11_faultEnergy_0 : decode cX11_faultEnergy 0 = .ok (.aload_n 0, 1) := by decide +kernel
theorem dX11_faultEnergy_1 : decode cX11_faultEnergy 1 = .ok (.iload_n 1, 1) := by decide +kernel
theorem dX11_faultEnergy_2 : decode cX11_faultEnergy 2 = .ok (.invokevirtual 121, 3) := by decide +kernel
theorem dX11_faultEnergy_5 : decode cX11_faultEnergy 5 = .ok (.ifCond .eq 11, 3) := by decide +kernel
theorem dX11_faultEnergy_8 : decode cX11_faultEnergy 8 = .ok (.aload_n 0, 1) := by decide +kernel
theorem dX11_faultEnergy_9 : decode cX11_faultEnergy 9 = .ok (.iconst 1, 1) := by decide +kernel
theorem dX11_faultEnergy_10 : decode cX11_faultEnergy 10 = .ok (.ldc 168, 2) := by decide +kernel
theorem dX11_faultEnergy_12 : decode cX11_faultEnergy 12 = .ok (.invokevirtual 82, 3) := by decide +kernel
theorem dX11_faultEnergy_15 : decode cX11_faultEnergy 15 = .ok (.ireturn, 1) := by decide +kernel
theorem dX11_faultEnergy_16 : decode cX11_faultEnergy 16 = .ok (.aload_n 0, 1) := by decide +kernel
theorem dX11_faultEnergy_17 : decode cX11_faultEnergy 17 = .ok (.getfield 28, 3) := by decide +kernel
theorem dX11_faultEnergy_20 : decode cX11_faultEnergy 20 = .ok (.iload_n 1, 1) := by decide +kernel
theorem dX11_faultEnergy_21 : decode cX11_faultEnergy 21 = .ok (.invokevirtual 127, 3) := by decide +kernel
theorem dX11_faultEnergy_24 : decode cX11_faultEnergy 24 = .ok (.istore_n 3, 1) := by decide +kernel
theorem dX11_faultEnergy_25 : decode cX11_faultEnergy 25 = .ok (.iload_n 2, 1) := by decide +kernel
theorem dX11_faultEnergy_26 : decode cX11_faultEnergy 26 = .ok (.iconst 1, 1) := by decide +kernel
theorem dX11_faultEnergy_27 : decode cX11_faultEnergy 27 = .ok (.if_icmp .lt 8, 3) := by decide +kernel
theorem dX11_faultEnergy_30 : decode cX11_faultEnergy 30 = .ok (.iload_n 2, 1) := by decide +kernel
theorem dX11_faultEnergy_31 : decode cX11_faultEnergy 31 = .ok (.iload_n 3, 1) := by decide +kernel
theorem dX11_faultEnergy_32 : decode cX11_faultEnergy 32 = .ok (.if_icmp .lt 11, 3) := by decide +kernel
theorem dX11_faultEnergy_35 : decode cX11_faultEnergy 35 = .ok (.aload_n 0, 1) := by decide +kernel
theorem dX11_faultEnergy_36 : decode cX11_faultEnergy 36 = .ok (.iconst 2, 1) := by decide +kernel
theorem dX11_faultEnergy_37 : decode cX11_faultEnergy 37 = .ok (.ldc 168, 2) := by decide +kernel
theorem dX11_faultEnergy_39 : decode cX11_faultEnergy 39 = .ok (.invokevirtual 82, 3) := by decide +kernel
theorem dX11_faultEnergy_42 : decode cX11_faultEnergy 42 = .ok (.ireturn, 1) := by decide +kernel
theorem dX11_faultEnergy_43 : decode cX11_faultEnergy 43 = .ok (.aload_n 0, 1) := by decide +kernel
theorem dX11_faultEnergy_44 : decode cX11_faultEnergy 44 = .ok (.aload_n 0, 1) := by decide +kernel
theorem dX11_faultEnergy_45 : decode cX11_faultEnergy 45 = .ok (.getfield 63, 3) := by decide +kernel
theorem dX11_faultEnergy_48 : decode cX11_faultEnergy 48 = .ok (.aload_n 0, 1) := by decide +kernel
theorem dX11_faultEnergy_49 : decode cX11_faultEnergy 49 = .ok (.getfield 28, 3) := by decide +kernel
theorem dX11_faultEnergy_52 : decode cX11_faultEnergy 52 = .ok (.iload_n 1, 1) := by decide +kernel
theorem dX11_faultEnergy_53 : decode cX11_faultEnergy 53 = .ok (.invokevirtual 124, 3) := by decide +kernel
theorem dX11_faultEnergy_56 : decode cX11_faultEnergy 56 = .ok (.iload_n 3, 1) := by decide +kernel
theorem dX11_faultEnergy_57 : decode cX11_faultEnergy 57 = .ok (.iload_n 2, 1) := by decide +kernel
theorem dX11_faultEnergy_58 : decode cX11_faultEnergy 58 = .ok (.invokestatic 244, 3) := by decide +kernel
theorem dX11_faultEnergy_61 : decode cX11_faultEnergy 61 = .ok (.iload_n 3, 1) := by decide +kernel
theorem dX11_faultEnergy_62 : decode cX11_faultEnergy 62 = .ok (.invokevirtual 169, 3) := by decide +kernel
theorem dX11_faultEnergy_65 : decode cX11_faultEnergy 65 = .ok (.invokevirtual 114, 3) := by decide +kernel
theorem dX11_faultEnergy_68 : decode cX11_faultEnergy 68 = .ok (.ireturn, 1) := by decide +kernel
set_option maxRecDepth 20000 in
theorem ggX11_bestFault_X11_lacks : GoodIn wsX11_bestFault wsX11_lacks := goodIn_r _ [7, 1, 58, 59, 60, 61, 62, 63, 64, 65, 66, 67, 68, 69, 70, 71, 72] (by decide +kernel) (by decide +kernel)
set_option maxRecDepth 20000 in
theorem gX11_bestFault_X11_lacks : GoodIn wsX11_bestFault (wsV RX11 121 RX11 yX11_lacks wsX11_lacks) := goodIn_app (goodIn_of _ (by decide +kernel)) ggX11_bestFault_X11_lacks
set_option maxRecDepth 20000 in
theorem ggX11_bestFault_X11_refused : GoodIn wsX11_bestFault wsX11_refused := goodIn_r _ [11, 12, 58, 59, 60, 61, 62, 63, 64, 65, 66, 67, 68, 69] (by decide +kernel) (by decide +kernel)
set_option maxRecDepth 20000 in
theorem gX11_bestFault_X11_refused : GoodIn wsX11_bestFault (wsV RX11 82 RX11 yX11_refused wsX11_refused) := goodIn_app (goodIn_of _ (by decide +kernel)) ggX11_bestFault_X11_refused
set_option maxRecDepth 20000 in
theorem ggX11_bestFault_X9_row : GoodIn wsX11_bestFault wsX9_row := goodIn_r _ [17, 18, 19, 6, 20, 70, 71, 72] (by decide +kernel) (by decide +kernel)
set_option maxRecDepth 20000 in
theorem gX11_bestFault_X9_row : GoodIn wsX11_bestFault (wsV RX11 124 RX9 yX9_row wsX9_row) := goodIn_app (goodIn_of _ (by decide +kernel)) ggX11_bestFault_X9_row
set_option maxRecDepth 20000 in
theorem ggX11_bestFault_X9_steps : GoodIn wsX11_bestFault wsX9_steps := goodIn_r _ [24, 25, 19, 6, 20, 70, 71, 72] (by decide +kernel) (by decide +kernel)
set_option maxRecDepth 20000 in
theorem gX11_bestFault_X9_steps : GoodIn wsX11_bestFault (wsV RX11 127 RX9 yX9_steps wsX9_steps) := goodIn_app (goodIn_of _ (by decide +kernel)) ggX11_bestFault_X9_steps
set_option maxRecDepth 20000 in
theorem ggX11_bestFault_X8_otherFrom : GoodIn wsX11_bestFault wsX8_otherFrom := goodIn_r _ [29, 30, 31, 28, 32] (by decide +kernel) (by decide +kernel)
set_option maxRecDepth 20000 in
theorem gX11_bestFault_X8_otherFrom : GoodIn wsX11_bestFault (va_wsS RX11 244 yX8_otherFrom wsX8_otherFrom) := goodIn_app (goodIn_of _ (by decide +kernel)) ggX11_bestFault_X8_otherFrom
set_option maxRecDepth 20000 in
theorem ggX11_bestFault_X4_energyOf : GoodIn wsX11_bestFault wsX4_energyOf := goodIn_r _ [37, 38, 39, 40, 41, 42, 28, 43, 44, 45, 36, 46, 47, 48, 49, 50, 51, 52, 53, 73, 74, 75, 76, 77, 78, 79, 80, 81, 82, 83, 84, 85, 86] (by decide +kernel) (by decide +kernel)
set_option maxRecDepth 20000 in
theorem gX11_bestFault_X4_energyOf : GoodIn wsX11_bestFault (wsV RX11 169 RX4 yX4_energyOf wsX4_energyOf) := goodIn_app (goodIn_of _ (by decide +kernel)) ggX11_bestFault_X4_energyOf
