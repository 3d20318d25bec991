set_option maxRecDepth 20000 in
theorem gX13_hex_X13_isStack : GoodIn wsX13_hex (wsV RX13 307 RX13 yX13_isStack wsX13_isStack) := goodIn_app (goodIn_of _ (by decide +kernel)) ggX13_hex_X13_isStack
set_option maxRecDepth 20000 in
theorem ggX13_hex_X13_refused : GoodIn wsX13_hex wsX13_refused := goodIn_r _ [11, 12, 13, 36, 37, 38, 39, 40, 41, 42, 43, 44, 45, 46, 47, 48, 49, 50, 51, 52, 53, 54, 55, 56, 57, 58, 59, 60, 61, 62, 63, 64, 65, 66, 67, 68, 69, 70, 71, 72, 73] (by decide +kernel) (by decide +kernel)
set_option maxRecDepth 20000 in
theorem gX13_hex_X13_refused : GoodIn wsX13_hex (wsV RX13 55 RX13 yX13_refused wsX13_refused) := goodIn_app (goodIn_of _ (by decide +kernel)) ggX13_hex_X13_refused
set_option maxRecDepth 20000 in
theorem ggX13_hex_X13_in : GoodIn wsX13_hex wsX13_in := goodIn_r _ [16] (by decide +kernel) (by decide +kernel)
set_option maxRecDepth 20000 in
theorem gX13_hex_X13_in : GoodIn wsX13_hex (va_wsS RX13 137 yX13_in wsX13_in) := goodIn_app (goodIn_of _ (by decide +kernel)) ggX13_hex_X13_in
set_option maxRecDepth 20000 in
theorem ggX13_hex_X13_row : GoodIn wsX13_hex wsX13_row := goodIn_r _ [20, 21, 36, 37, 38, 39, 40, 41, 42, 43, 44, 45, 46, 47, 48, 49, 50, 51, 52, 53, 54, 55, 56, 57, 58, 59, 60, 61, 62, 63, 64, 65, 66, 67, 68, 69, 70, 71, 72, 73] (by decide +kernel) (by decide +kernel)
set_option maxRecDepth 20000 in
theorem gX13_hex_X13_row : GoodIn wsX13_hex (wsV RX13 312 RX13 yX13_row wsX13_row) := goodIn_app (goodIn_of _ (by decide +kernel)) ggX13_hex_X13_row
set_option maxRecDepth 20000 in
theorem ggX13_hex_X13_steps : GoodIn wsX13_hex wsX13_steps := goodIn_r _ [25, 21, 36, 37, 38, 39, 40, 41, 42, 43, 44, 45, 46, 47, 48, 49, 50, 51, 52, 53, 54, 55, 56, 57, 58, 59, 60, 61, 62, 63, 64, 65, 66, 67, 68, 69, 70, 71, 72, 73] (by decide +kernel) (by decide +kernel)
set_option maxRecDepth 20000 in
theorem gX13_hex_X13_steps : GoodIn wsX13_hex (wsV RX13 310 RX13 yX13_steps wsX13_steps) := goodIn_app (goodIn_of _ (by decide +kernel)) ggX13_hex_X13_steps
set_option maxRecDepth 20000 in
theorem ggX13_hex_X13_isHex : GoodIn wsX13_hex wsX13_isHex := goodIn_r _ [28, 29, 30, 5, 31] (by decide +kernel) (by decide +kernel)
set_option maxRecDepth 20000 in
theorem gX13_hex_X13_isHex : GoodIn wsX13_hex (va_wsS RX13 292 yX13_isHex wsX13_isHex) := goodIn_app (goodIn_of _ (by decide +kernel)) ggX13_hex_X13_isHex
set_option maxRecDepth 20000 in
theorem ggX13_hex_X13_good : GoodIn wsX13_hex wsX13_good := goodIn_r _ [35, 12, 13, 36, 37, 38, 39, 40, 41, 42, 43, 44, 45, 46, 47, 48, 49, 50, 51, 52, 53, 54, 55, 56, 57, 58, 59, 60, 61, 62, 63, 64, 65, 66, 67, 68, 69, 70, 71, 72, 73] (by decide +kernel) (by decide +kernel)
set_option maxRecDepth 20000 in
theorem gX13_hex_X13_good : GoodIn wsX13_hex (wsV RX13 59 RX13 yX13_good wsX13_good) := goodIn_app (goodIn_of _ (by decide +kernel)) ggX13_hex_X13_good
theorem dX13_hex_0 : decode cX13_hex 0 = .ok (.aload_n 0, 1) := by decide +kernel
theorem dX13_hex_1 : decode cX13_hex 1 = .ok (.iconst 0, 1) := by decide +kernel
theorem dX13_hex_2 : decode cX13_hex 2 = .ok (.putfield 49, 3) := by decide +kernel
theorem dX13_hex_5 : decode cX13_hex 5 = .ok (.aload_n 0, 1) := by decide +kernel
theorem dX13_hex_6 : decode cX13_hex 6 = .ok (.iload_n 1, 1) := by decide +kernel
theorem dX13_hex_7 : decode cX13_hex 7 = .ok (.invokevirtual 307, 3) := by decide +kernel
theorem dX13_hex_10 : decode cX13_hex 10 = .ok (.ifCond .ne 9, 3) := by decide +kernel
theorem dX13_hex_13 : decode cX13_hex 13 = .ok (.aload_n 0, 1) := by decide +kernel
theorem dX13_hex_14 : decode cX13_hex 14 = .ok (.iconst 1, 1) := by decide +kernel
theorem dX13_hex_15 : decode cX13_hex 15 = .ok (.invokevirtual 55, 3) := by decide +kernel
theorem dX13_hex_18 : decode cX13_hex 18 = .ok (.ireturn, 1) := by decide +kernel
theorem dX13_hex_19 : decode cX13_hex 19 = .ok (.iload_n 2, 1) := by decide +kernel
theorem dX13_hex_20 : decode cX13_hex 20 = .ok (.iconst 0, 1) := by decide +kernel
theorem dX13_hex_21 : decode cX13_hex 21 = .ok (.bipush 35, 2) := by decide +kernel
theorem dX13_hex_23 : decode cX13_hex 23 = .ok (.invokestatic 137, 3) := by decide +kernel
theorem dX13_hex_26 : decode cX13_hex 26 = .ok (.ifCond .ne 9, 3) := by decide +kernel
theorem dX13_hex_29 : decode cX13_hex 29 = .ok (.aload_n 0, 1) := by decide +kernel
theorem dX13_hex_30 : decode cX13_hex 30 = .ok (.iconst 2, 1) := by decide +kernel
theorem dX13_hex_31 : decode cX13_hex 31 = .ok (.invokevirtual 55, 3) := by decide +kernel
theorem dX13_hex_34 : decode cX13_hex 34 = .ok (.ireturn, 1) := by decide +kernel
theorem dX13_hex_35 : decode cX13_hex 35 = .ok (.aload_n 0, 1) := by decide +kernel
theorem dX13_hex_36 : decode cX13_hex 36 = .ok (.aload_n 0, 1) := by decide +kernel
theorem dX13_hex_37 : decode cX13_hex 37 = .ok (.iload_n 1, 1) := by decide +kernel
theorem dX13_hex_38 : decode cX13_hex 38 = .ok (.invokevirtual 312, 3) := by decide +kernel
theorem dX13_hex_41 : decode cX13_hex 41 = .ok (.aload_n 0, 1) := by decide +kernel
theorem dX13_hex_42 : decode cX13_hex 42 = .ok (.iload_n 1, 1) := by decide +kernel
theorem dX13_hex_43 : decode cX13_hex 43 = .ok (.invokevirtual 310, 3) := by decide +kernel
theorem dX13_hex_46 : decode cX13_hex 46 = .ok (.iload_n 2, 1) := by decide +kernel
theorem dX13_hex_47 : decode cX13_hex 47 = .ok (.invokestatic 292, 3) := by decide +kernel
theorem dX13_hex_50 : decode cX13_hex 50 = .ok (.ifCond .eq 7, 3) := by decide +kernel
theorem dX13_hex_53 : decode cX13_hex 53 = .ok (.iconst 1, 1) := by decide +kernel
theorem dX13_hex_54 : decode cX13_hex 54 = .ok (.goto 4, 3) := by decide +kernel
theorem dX13_hex_57 : decode cX13_hex 57 = .ok (.iconst 0, 1) := by decide +kernel
theorem dX13_hex_58 : decode cX13_hex 58 = .ok (.invokevirtual 59, 3) := by decide +kernel
theorem dX13_hex_61 : decode cX13_hex 61 = .ok (.ireturn, 1) := by decide +kernel
set_option maxRecDepth 20000 in
theorem ggX13_run_X13_isStack : GoodIn wsX13_run wsX13_isStack := goodIn_r _ [6, 7, 39, 40, 41, 42, 43, 44, 45, 46, 47, 48, 49, 50, 51, 52, 53, 54, 55, 56, 57, 58, 59, 60, 61, 62, 63, 64, 65, 66, 67, 68, 69, 70, 71, 72, 73, 74, 75, 76, 77, 78, 79, 80, 81, 82, 83, 84, 85, 86, 87, 88, 89, 90, 91, 92] (by decide +kernel) (by decide +kernel)
set_option maxRecDepth 20000 in
theorem gX13_run_X13_isStack : GoodIn wsX13_run (wsV RX13 307 RX13 yX13_isStack wsX13_isStack) := goodIn_app (goodIn_of _ (by decide +kernel)) ggX13_run_X13_isStack
set_option maxRecDepth 20000 in
theorem ggX13_run_X13_refused : GoodIn wsX13_run wsX13_refused := goodIn_r _ [11, 12, 13, 39, 40, 41, 42, 43, 44, 45, 46, 47, 48, 49, 50, 51, 52, 53, 54, 55, 56, 57, 58, 59, 60, 61, 62, 63, 64, 65, 66, 67, 68, 69, 70, 71, 72, 73, 74, 75, 76] (by decide +kernel) (by decide +kernel)
set_option maxRecDepth 20000 in
theorem gX13_run_X13_refused : GoodIn wsX13_run (wsV RX13 55 RX13 yX13_refused wsX13_refused) := goodIn_app (goodIn_of _ (by decide +kernel)) ggX13_run_X13_refused
set_option maxRecDepth 20000 in
theorem ggX13_run_X13_steps : GoodIn wsX13_run wsX13_steps := goodIn_r _ [17, 18, 39, 40, 41, 42, 43, 44, 45, 46, 47, 48, 49, 50, 51, 52, 53, 54, 55, 56, 57, 58, 59, 60, 61, 62, 63, 64, 65, 66, 67, 68, 69, 70, 71, 72, 73, 74, 75, 76] (by decide +kernel) (by decide +kernel)
set_option maxRecDepth 20000 in
theorem gX13_run_X13_steps : GoodIn wsX13_run (wsV RX13 310 RX13 yX13_steps wsX13_steps) := goodIn_app (goodIn_of _ (by decide +kernel)) ggX13_run_X13_steps
set_option maxRecDepth 20000 in
theorem ggX13_run_X13_row : GoodIn wsX13_run wsX13_row := goodIn_r _ [22, 18, 39, 40, 41, 42, 43, 44, 45, 46, 47, 48, 49, 50, 51, 52, 53, 54, 55, 56, 57, 58, 59, 60, 61, 62, 63, 64, 65, 66, 67, 68, 69, 70, 71, 72, 73, 74, 75, 76] (by decide +kernel) (by decide +kernel)
set_option maxRecDepth 20000 in
theorem gX13_run_X13_row : GoodIn wsX13_run (wsV RX13 312 RX13 yX13_row wsX13_row) := goodIn_app (goodIn_of _ (by decide +kernel)) ggX13_run_X13_row
set_option maxRecDepth 20000 in
theorem ggX13_run_X13_runsOf : GoodIn wsX13_run wsX13_runsOf := goodIn_r _ [25, 26, 27, 5, 28, 29, 30, 31, 32, 33, 34] (by decide +kernel) (by decide +kernel)
set_option maxRecDepth 20000 in
theorem gX13_run_X13_runsOf : GoodIn wsX13_run (va_wsS RX13 317 yX13_runsOf wsX13_runsOf) := goodIn_app (goodIn_of _ (by decide +kernel)) ggX13_run_X13_runsOf
set_option maxRecDepth 20000 in
theorem ggX13_run_X13_hexes : GoodIn wsX13_run wsX13_hexes := goodIn_r _ [28, 29, 30, 5, 31, 32, 33, 34] (by decide +kernel) (by decide +kernel)
set_option maxRecDepth 20000 in
theorem gX13_run_X13_hexes : GoodIn wsX13_run (va_wsS RX13 304 yX13_hexes wsX13_hexes) := goodIn_app (goodIn_of _ (by decide +kernel)) ggX13_run_X13_hexes
set_option maxRecDepth 20000 in
theorem ggX13_run_X13_good : GoodIn wsX13_run wsX13_good := goodIn_r _ [38, 12, 13, 39, 40, 41, 42, 43, 44, 45, 46, 47, 48, 49, 50, 51, 52, 53, 54, 55, 56, 57, 58, 59, 60, 61, 62, 63, 64, 65, 66, 67, 68, 69, 70, 71, 72, 73, 74, 75, 76] (by decide +kernel) (by decide +kernel)
set_option maxRecDepth 20000 in
theorem gX13_run_X13_good : GoodIn wsX13_run (wsV RX13 59 RX13 yX13_good wsX13_good) := goodIn_app (goodIn_of _ (by decide +kernel)) ggX13_run_X13_good
set_option maxRecDepth 20000 in
theorem ggX13_run_X13_isHex : GoodIn wsX13_run wsX13_isHex := goodIn_r _ [31, 32, 33, 5, 34] (by decide +kernel) (by decide +kernel)
set_option maxRecDepth 20000 in
theorem gX13_run_X13_isHex : GoodIn wsX13_run (va_wsS RX13 292 yX13_isHex wsX13_isHex) := goodIn_app (goodIn_of _ (by decide +kernel)) ggX13_run_X13_isHex
theorem dX13_run_0 : decode cX13_run 0 = .ok (.aload_n 0, 1) := by decide +kernel
theorem dX13_run_1 : decode cX13_run 1 = .ok (.iconst 0, 1) := by decide +kernel
theorem dX13_run_2 : decode cX13_run 2 = .ok (.putfield 49, 3) := by decide +kernel
theorem dX13_run_5 : decode cX13_run 5 = .ok (.aload_n 0, 1) := by decide +kernel
theorem dX13_run_6 : decode cX13_run 6 = .ok (.iload_n 1, 1) := by decide +kernel
theorem dX13_run_7 : decode cX13_run 7 = .ok (.invokevirtual 307, 3) := by decide +kernel
theorem dX13_run_10 : decode cX13_run 10 = .ok (.ifCond .ne 9, 3) := by decide +kernel
theorem dX13_run_13 : decode cX13_run 13 = .ok (.aload_n 0, 1) := by decide +kernel
theorem dX13_run_14 : decode cX13_run 14 = .ok (.iconst 1, 1) := by decide +kernel
theorem dX13_run_15 : decode cX13_run 15 = .ok (.invokevirtual 55, 3) := by decide +kernel
theorem dX13_run_18 : decode cX13_run 18 = .ok (.ireturn, 1) := by decide +kernel
theorem dX13_run_19 : decode cX13_run 19 = .ok (.aload_n 0, 1) := by decide +kernel
theorem dX13_run_20 : decode cX13_run 20 = .ok (.iload_n 1, 1) := by decide +kernel
theorem dX13_run_21 : decode cX13_run 21 = .ok (.invokevirtual 310, 3) := by decide +kernel
theorem dX13_run_24 : decode cX13_run 24 = .ok (.istore_n 3, 1) := by decide +kernel
theorem dX13_run_25 : decode cX13_run 25 = .ok (.aload_n 0, 1) := by decide +kernel
theorem dX13_run_26 : decode cX13_run 26 = .ok (.iload_n 1, 1) := by decide +kernel
theorem dX13_run_27 : decode cX13_run 27 = .ok (.invokevirtual 312, 3) := by decide +kernel
theorem dX13_run_30 : decode cX13_run 30 = .ok (.istore 4, 2) := by decide +kernel
theorem dX13_run_32 : decode cX13_run 32 = .ok (.iload_n 2, 1) := by decide +kernel
theorem dX13_run_33 : decode cX13_run 33 = .ok (.ifCond .lt 13, 3) := by decide +kernel
theorem dX13_run_36 : decode cX13_run 36 = .ok (.iload_n 2, 1) := by decide +kernel
theorem dX13_run_37 : decode cX13_run 37 = .ok (.iload 4, 2) := by decide +kernel
theorem dX13_run_39 : decode cX13_run 39 = .ok (.iload_n 3, 1) := by decide +kernel
theorem dX13_run_40 : decode cX13_run 40 = .ok (.invokestatic 317, 3) := by decide +kernel
theorem dX13_run_43 : decode cX13_run 43 = .ok (.if_icmp .lt 9, 3) := by decide +kernel
theorem dX13_run_46 : decode cX13_run 46 = .ok (.aload_n 0, 1) := by decide +kernel
theorem dX13_run_47 : decode cX13_run 47 = .ok (.iconst 1, 1) := by decide +kernel
theorem dX13_run_48 : decode cX13_run 48 = .ok (.invokevirtual 55, 3) := by decide +kernel
theorem dX13_run_51 : decode cX13_run 51 = .ok (.ireturn, 1) := by decide +kernel
theorem dX13_run_52 : decode cX13_run 52 = .ok (.iload 4, 2) := by decide +kernel
theorem dX13_run_54 : decode cX13_run 54 = .ok (.iload_n 3, 1) := by decide +kernel
theorem dX13_run_55 : decode cX13_run 55 = .ok (.invokestatic 304, 3) := by decide +kernel
theorem dX13_run_58 : decode cX13_run 58 = .ok (.ifCond .ne 9, 3) := by decide +kernel
theorem dX13_run_61 : decode cX13_run 61 = .ok (.aload_n 0, 1) := by decide +kernel
theorem dX13_run_62 : decode cX13_run 62 = .ok (.iload_n 3, 1) := by decide +kernel
theorem dX13_run_63 : decode cX13_run 63 = .ok (.invokevirtual 59, 3) := by decide +kernel
theorem dX13_run_66 : decode cX13_run 66 = .ok (.ireturn, 1) := by decide +kernel
theorem dX13_run_67 : decode cX13_run 67 = .ok (.iconst 0, 1) := by decide +kernel
theorem dX13_run_68 : decode cX13_run 68 = .ok (.istore 5, 2) := by decide +kernel
theorem dX13_run_70 : decode cX13_run 70 = .ok (.iconst 0, 1) := by decide +kernel
theorem dX13_run_71 : decode cX13_run 71 = .ok (.istore 6, 2) := by decide +kernel
theorem dX13_run_73 : decode cX13_run 73 = .ok (.iload 4, 2) := by decide +kernel
theorem dX13_run_75 : decode cX13_run 75 = .ok (.iload_n 3, 1) := by decide +kernel
theorem dX13_run_76 : decode cX13_run 76 = .ok (.iload 5, 2) := by decide +kernel
theorem dX13_run_78 : decode cX13_run 78 = .ok (.invokestatic 292, 3) := by decide +kernel
theorem dX13_run_81 : decode cX13_run 81 = .ok (.ifCond .eq 9, 3) := by decide +kernel
theorem dX13_run_84 : decode cX13_run 84 = .ok (.iload 6, 2) := by decide +kernel
theorem dX13_run_86 : decode cX13_run 86 = .ok (.iload_n 2, 1) := by decide +kernel
theorem dX13_run_87 : decode cX13_run 87 = .ok (.if_icmp .ge 23, 3) := by decide +kernel
theorem dX13_run_90 : decode cX13_run 90 = .ok (.iload 4, 2) := by decide +kernel
theorem dX13_run_92 : decode cX13_run 92 = .ok (.iload_n 3, 1) := by decide +kernel
theorem dX13_run_93 : decode cX13_run 93 = .ok (.iload 5, 2) := by decide +kernel
theorem dX13_run_95 : decode cX13_run 95 = .ok (.invokestatic 292, 3) := by decide +kernel
theorem dX13_run_98 : decode cX13_run 98 = .ok (.ifCond .eq 6, 3) := by decide +kernel
theorem dX13_run_101 : decode cX13_run 101 = .ok (.iinc 6 1, 3) := by decide +kernel
theorem dX13_run_104 : decode cX13_run 104 = .ok (.iinc 5 1, 3) := by decide +kernel
theorem dX13_run_107 : decode cX13_run 107 = .ok (.goto (-34), 3) := by decide +kernel
theorem dX13_run_110 : decode cX13_run 110 = .ok (.iconst 1, 1) := by decide +kernel
theorem dX13_run_111 : decode cX13_run 111 = .ok (.istore 7, 2) := by decide +kernel
theorem dX13_run_113 : decode cX13_run 113 = .ok (.iload 4, 2) := by decide +kernel
theorem dX13_run_115 : decode cX13_run 115 = .ok (.iload_n 3, 1) := by decide +kernel
theorem dX13_run_116 : decode cX13_run 116 = .ok (.iload 5, 2) := by decide +kernel
theorem dX13_run_118 : decode cX13_run 118 = .ok (.iload 7, 2) := by decide +kernel
theorem dX13_run_120 : decode cX13_run 120 = .ok (.iadd, 1) := by decide +kernel
theorem dX13_run_121 : decode cX13_run 121 = .ok (.invokestatic 292, 3) := by decide +kernel
theorem dX13_run_124 : decode cX13_run 124 = .ok (.ifCond .ne 9, 3) := by decide +kernel
theorem dX13_run_127 : decode cX13_run 127 = .ok (.iinc 7 1, 3) := by decide +kernel
theorem dX13_run_130 : decode cX13_run 130 = .ok (.goto (-17), 3) := by decide +kernel
theorem dX13_run_133 : decode cX13_run 133 = .ok (.aload_n 0, 1) := by decide +kernel
theorem dX13_run_134 : decode cX13_run 134 = .ok (.iload 7, 2) := by decide +kernel
theorem dX13_run_136 : decode cX13_run 136 = .ok (.invokevirtual 59, 3) := by decide +kernel
theorem dX13_run_139 : decode cX13_run 139 = .ok (.ireturn, 1) := by decide +kernel
set_option maxRecDepth 20000 in
theorem ggX13_agree_X13_isStack : GoodIn wsX13_agree wsX13_isStack := goodIn_r _ [6, 7, 51, 52, 53, 54, 55, 56, 57, 58, 59, 60, 61, 62, 63, 64, 65, 66, 67, 68, 69, 70, 71, 72, 73, 74, 75, 76, 77, 78, 79, 80, 81, 82, 83, 84, 85, 86, 87, 88, 89, 90, 91, 92, 93, 94, 95, 96, 97, 98, 99, 100, 101, 102, 103, 104] (by decide +kernel) (by decide +kernel)
set_option maxRecDepth 20000 in
theorem gX13_agree_X13_isStack : GoodIn wsX13_agree (wsV RX13 307 RX13 yX13_isStack wsX13_isStack) := goodIn_app (goodIn_of _ (by decide +kernel)) ggX13_agree_X13_isStack
set_option maxRecDepth 20000 in
theorem ggX13_agree_X13_refused : GoodIn wsX13_agree wsX13_refused := goodIn_r _ [11, 12, 13, 51, 52, 53, 54, 55, 56, 57, 58, 59, 60, 61, 62, 63, 64, 65, 66, 67, 68, 69, 70, 71, 72, 73, 74, 75, 76, 77, 78, 79, 80, 81, 82, 83, 84, 85, 86, 87, 88] (by decide +kernel) (by decide +kernel)
set_option maxRecDepth 20000 in
theorem gX13_agree_X13_refused : GoodIn wsX13_agree (wsV RX13 55 RX13 yX13_refused wsX13_refused) := goodIn_app (goodIn_of _ (by decide +kernel)) ggX13_agree_X13_refused
set_option maxRecDepth 20000 in
theorem ggX13_agree_X13_in : GoodIn wsX13_agree wsX13_in := goodIn_r _ [16] (by decide +kernel) (by decide +kernel)
set_option maxRecDepth 20000 in
theorem gX13_agree_X13_in : GoodIn wsX13_agree (va_wsS RX13 137 yX13_in wsX13_in) := goodIn_app (goodIn_of _ (by decide +kernel)) ggX13_agree_X13_in
set_option maxRecDepth 20000 in
theorem ggX13_agree_X13_row : GoodIn wsX13_agree wsX13_row := goodIn_r _ [20, 21, 51, 52, 53, 54, 55, 56, 57, 58, 59, 60, 61, 62, 63, 64, 65, 66, 67, 68, 69, 70, 71, 72, 73, 74, 75, 76, 77, 78, 79, 80, 81, 82, 83, 84, 85, 86, 87, 88] (by decide +kernel) (by decide +kernel)
set_option maxRecDepth 20000 in
theorem gX13_agree_X13_row : GoodIn wsX13_agree (wsV RX13 312 RX13 yX13_row wsX13_row) := goodIn_app (goodIn_of _ (by decide +kernel)) ggX13_agree_X13_row
set_option maxRecDepth 20000 in
theorem ggX13_agree_X13_steps : GoodIn wsX13_agree wsX13_steps := goodIn_r _ [25, 21, 51, 52, 53, 54, 55, 56, 57, 58, 59, 60, 61, 62, 63, 64, 65, 66, 67, 68, 69, 70, 71, 72, 73, 74, 75, 76, 77, 78, 79, 80, 81, 82, 83, 84, 85, 86, 87, 88] (by decide +kernel) (by decide +kernel)
set_option maxRecDepth 20000 in
theorem gX13_agree_X13_steps : GoodIn wsX13_agree (wsV RX13 310 RX13 yX13_steps wsX13_steps) := goodIn_app (goodIn_of _ (by decide +kernel)) ggX13_agree_X13_steps
set_option maxRecDepth 20000 in
theorem ggX13_agree_X13_agreeOf : GoodIn wsX13_agree wsX13_agreeOf := goodIn_r _ [29, 30, 31, 32, 33, 5, 34, 35, 36, 37, 38, 39, 40, 41, 42, 43, 44, 45, 46, 51, 52, 53, 54, 55, 56, 57, 58, 59, 60, 61, 62, 63, 64, 65, 66, 67, 68, 69, 70, 71, 72, 73, 74, 75, 76, 77, 78, 79, 80, 81, 82, 83, 84, 85, 86, 87, 88] (by decide +kernel) (by decide +kernel)
set_option maxRecDepth 20000 in
theorem gX13_agree_X13_agreeOf : GoodIn wsX13_agree (wsV RX13 323 RX13 yX13_agreeOf wsX13_agreeOf) := goodIn_app (goodIn_of _ (by decide +kernel)) ggX13_agree_X13_agreeOf
set_option maxRecDepth 20000 in
theorem ggX13_agree_X13_good : GoodIn wsX13_agree wsX13_good := goodIn_r _ [50, 12, 13, 51, 52, 53, 54, 55, 56, 57, 58, 59, 60, 61, 62, 63, 64, 65, 66, 67, 68, 69, 70, 71, 72, 73, 74, 75, 76, 77, 78, 79, 80, 81, 82, 83, 84, 85, 86, 87, 88] (by decide +kernel) (by decide +kernel)
set_option maxRecDepth 20000 in
theorem gX13_agree_X13_good : GoodIn wsX13_agree (wsV RX13 59 RX13 yX13_good wsX13_good) := goodIn_app (goodIn_of _ (by decide +kernel)) ggX13_agree_X13_good
theorem dX13_agree_0 : decode cX13_agree 0 = .ok (.aload_n 0, 1) := by decide +kernel
theorem dX13_agree_1 : decode cX13_agree 1 = .ok (.iconst 0, 1) := by decide +kernel
theorem dX13_agree_2 : decode cX13_agree 2 = .ok (.putfield 49, 3) := by decide +kernel
theorem dX13_agree_5 : decode cX13_agree 5 = .ok (.aload_n 0, 1) := by decide +kernel
theorem dX13_agree_6 : decode cX13_agree 6 = .ok (.iload_n 1, 1) := by decide +kernel
theorem dX13_agree_7 : decode cX13_agree 7 = .ok (.invokevirtual 307, 3) := by decide +kernel
theorem dX13_agree_10 : decode cX13_agree 10 = .ok (.ifCond .ne 9, 3) := by decide +kernel
theorem dX13_agree_13 : decode cX13_agree 13 = .ok (.aload_n 0, 1) := by decide +kernel
theorem dX13_agree_14 : decode cX13_agree 14 = .ok (.iconst 1, 1) := by decide +kernel
theorem dX13_agree_15 : decode cX13_agree 15 = .ok (.invokevirtual 55, 3) := by decide +kernel
theorem dX13_agree_18 : decode cX13_agree 18 = .ok (.ireturn, 1) := by decide +kernel
theorem dX13_agree_19 : decode cX13_agree 19 = .ok (.iload_n 2, 1) := by decide +kernel
theorem dX13_agree_20 : decode cX13_agree 20 = .ok (.iconst 1, 1) := by decide +kernel
theorem dX13_agree_21 : decode cX13_agree 21 = .ok (.bipush 36, 2) := by decide +kernel
theorem dX13_agree_23 : decode cX13_agree 23 = .ok (.invokestatic 137, 3) := by decide +kernel
theorem dX13_agree_26 : decode cX13_agree 26 = .ok (.ifCond .ne 9, 3) := by decide +kernel
theorem dX13_agree_29 : decode cX13_agree 29 = .ok (.aload_n 0, 1) := by decide +kernel
theorem dX13_agree_30 : decode cX13_agree 30 = .ok (.iconst 2, 1) := by decide +kernel
theorem dX13_agree_31 : decode cX13_agree 31 = .ok (.invokevirtual 55, 3) := by decide +kernel
theorem dX13_agree_34 : decode cX13_agree 34 = .ok (.ireturn, 1) := by decide +kernel
theorem dX13_agree_35 : decode cX13_agree 35 = .ok (.aload_n 0, 1) := by decide +kernel
theorem dX13_agree_36 : decode cX13_agree 36 = .ok (.aload_n 0, 1) := by decide +kernel
theorem dX13_agree_37 : decode cX13_agree 37 = .ok (.aload_n 0, 1) := by decide +kernel
theorem dX13_agree_38 : decode cX13_agree 38 = .ok (.iload_n 1, 1) := by decide +kernel
theorem dX13_agree_39 : decode cX13_agree 39 = .ok (.invokevirtual 312, 3) := by decide +kernel
theorem dX13_agree_42 : decode cX13_agree 42 = .ok (.aload_n 0, 1) := by decide +kernel
theorem dX13_agree_43 : decode cX13_agree 43 = .ok (.iload_n 1, 1) := by decide +kernel
theorem dX13_agree_44 : decode cX13_agree 44 = .ok (.invokevirtual 310, 3) := by decide +kernel
theorem dX13_agree_47 : decode cX13_agree 47 = .ok (.iload_n 2, 1) := by decide +kernel
theorem dX13_agree_48 : decode cX13_agree 48 = .ok (.invokevirtual 323, 3) := by decide +kernel
theorem dX13_agree_51 : decode cX13_agree 51 = .ok (.invokevirtual 59, 3) := by decide +kernel
theorem dX13_agree_54 : decode cX13_agree 54 = .ok (.ireturn, 1) := by decide +kernel
set_option maxRecDepth 20000 in
theorem ggX13_share_X13_isStack : GoodIn wsX13_share wsX13_isStack := goodIn_r _ [6, 7, 43, 44, 45, 46, 47, 48, 49, 50, 51, 52, 53, 54, 55, 56, 57, 58, 59, 60, 61, 62, 63, 64, 65, 66, 67, 68, 69, 70, 71, 72, 73, 74, 75, 76, 77, 78, 79, 80, 81, 82, 83, 84, 85, 86, 87, 88, 89, 90, 91, 92, 93, 94, 95, 96] (by decide +kernel) (by decide +kernel)
set_option maxRecDepth 20000 in
theorem gX13_share_X13_isStack : GoodIn wsX13_share (wsV RX13 307 RX13 yX13_isStack wsX13_isStack) := goodIn_app (goodIn_of _ (by decide +kernel)) ggX13_share_X13_isStack
set_option maxRecDepth 20000 in
theorem ggX13_share_X13_refused : GoodIn wsX13_share wsX13_refused := goodIn_r _ [11, 12, 13, 43, 44, 45, 46, 47, 48, 49, 50, 51, 52, 53, 54, 55, 56, 57, 58, 59, 60, 61, 62, 63, 64, 65, 66, 67, 68, 69, 70, 71, 72, 73, 74, 75, 76, 77, 78, 79, 80] (by decide +kernel) (by decide +kernel)
set_option maxRecDepth 20000 in
theorem gX13_share_X13_refused : GoodIn wsX13_share (wsV RX13 55 RX13 yX13_refused wsX13_refused) := goodIn_app (goodIn_of _ (by decide +kernel)) ggX13_share_X13_refused
set_option maxRecDepth 20000 in
theorem ggX13_share_X13_row : GoodIn wsX13_share wsX13_row := goodIn_r _ [17, 18, 43, 44, 45, 46, 47, 48, 49, 50, 51, 52, 53, 54, 55, 56, 57, 58, 59, 60, 61, 62, 63, 64, 65, 66, 67, 68, 69, 70, 71, 72, 73, 74, 75, 76, 77, 78, 79, 80] (by decide +kernel) (by decide +kernel)
set_option maxRecDepth 20000 in
theorem gX13_share_X13_row : GoodIn wsX13_share (wsV RX13 312 RX13 yX13_row wsX13_row) := goodIn_app (goodIn_of _ (by decide +kernel)) ggX13_share_X13_row
set_option maxRecDepth 20000 in
theorem ggX13_share_X13_steps : GoodIn wsX13_share wsX13_steps := goodIn_r _ [22, 18, 43, 44, 45, 46, 47, 48, 49, 50, 51, 52, 53, 54, 55, 56, 57, 58, 59, 60, 61, 62, 63, 64, 65, 66, 67, 68, 69, 70, 71, 72, 73, 74, 75, 76, 77, 78, 79, 80] (by decide +kernel) (by decide +kernel)
set_option maxRecDepth 20000 in
theorem gX13_share_X13_steps : GoodIn wsX13_share (wsV RX13 310 RX13 yX13_steps wsX13_steps) := goodIn_app (goodIn_of _ (by decide +kernel)) ggX13_share_X13_steps
set_option maxRecDepth 20000 in
theorem ggX13_share_X13_hexes : GoodIn wsX13_share wsX13_hexes := goodIn_r _ [25, 26, 27, 5, 28, 29, 30, 31] (by decide +kernel) (by decide +kernel)
set_option maxRecDepth 20000 in
theorem gX13_share_X13_hexes : GoodIn wsX13_share (va_wsS RX13 304 yX13_hexes wsX13_hexes) := goodIn_app (goodIn_of _ (by decide +kernel)) ggX13_share_X13_hexes
set_option maxRecDepth 20000 in
theorem ggX13_share_X13_fraction : GoodIn wsX13_share wsX13_fraction := goodIn_r _ [35, 36, 37, 38, 5, 39, 12, 13, 40, 41, 42, 43, 44, 45, 46, 47, 48, 49, 50, 51, 52, 53, 54, 55, 56, 57, 58, 59, 60, 61, 62, 63, 64, 65, 66, 67, 68, 69, 70, 71, 72, 73, 74, 75, 76, 77, 78, 79, 80] (by decide +kernel) (by decide +kernel)
set_option maxRecDepth 20000 in
theorem gX13_share_X13_fraction : GoodIn wsX13_share (wsV RX13 326 RX13 yX13_fraction wsX13_fraction) := goodIn_app (goodIn_of _ (by decide +kernel)) ggX13_share_X13_fraction
theorem dX13_share_0 : decode cX13_share 0 = .ok (.aload_n 0, 1) := by decide +kernel
theorem dX13_share_1 : decode cX13_share 1 = .ok (.iconst 0, 1) := by decide +kernel
theorem dX13_share_2 : decode cX13_share 2 = .ok (.putfield 49, 3) := by decide +kernel
theorem dX13_share_5 : decode cX13_share 5 = .ok (.aload_n 0, 1) := by decide +kernel
theorem dX13_share_6 : decode cX13_share 6 = .ok (.iload_n 1, 1) := by decide +kernel
theorem dX13_share_7 : decode cX13_share 7 = .ok (.invokevirtual 307, 3) := by decide +kernel
theorem dX13_share_10 : decode cX13_share 10 = .ok (.ifCond .ne 10, 3) := by decide +kernel
theorem dX13_share_13 : decode cX13_share 13 = .ok (.aload_n 0, 1) := by decide +kernel
theorem dX13_share_14 : decode cX13_share 14 = .ok (.iconst 1, 1) := by decide +kernel
theorem dX13_share_15 : decode cX13_share 15 = .ok (.invokevirtual 55, 3) := by decide +kernel
theorem dX13_share_18 : decode cX13_share 18 = .ok (.i2l, 1) := by decide +kernel
theorem dX13_share_19 : decode cX13_share 19 = .ok (.lreturn, 1) := by decide +kernel
theorem dX13_share_20 : decode cX13_share 20 = .ok (.aload_n 0, 1) := by decide +kernel
theorem dX13_share_21 : decode cX13_share 21 = .ok (.aload_n 0, 1) := by decide +kernel
theorem dX13_share_22 : decode cX13_share 22 = .ok (.iload_n 1, 1) := by decide +kernel
theorem dX13_share_23 : decode cX13_share 23 = .ok (.invokevirtual 312, 3) := by decide +kernel
theorem dX13_share_26 : decode cX13_share 26 = .ok (.aload_n 0, 1) := by decide +kernel
theorem dX13_share_27 : decode cX13_share 27 = .ok (.iload_n 1, 1) := by decide +kernel
theorem dX13_share_28 : decode cX13_share 28 = .ok (.invokevirtual 310, 3) := by decide +kernel
theorem dX13_share_31 : decode cX13_share 31 = .ok (.invokestatic 304, 3) := by decide +kernel
theorem dX13_share_34 : decode cX13_share 34 = .ok (.i2l, 1) := by decide +kernel
theorem dX13_share_35 : decode cX13_share 35 = .ok (.aload_n 0, 1) := by decide +kernel
theorem dX13_share_36 : decode cX13_share 36 = .ok (.iload_n 1, 1) := by decide +kernel
theorem dX13_share_37 : decode cX13_share 37 = .ok (.invokevirtual 310, 3) := by decide +kernel
theorem dX13_share_40 : decode cX13_share 40 = .ok (.i2l, 1) := by decide +kernel
theorem dX13_share_41 : decode cX13_share 41 = .ok (.iload_n 2, 1) := by decide +kernel
theorem dX13_share_42 : decode cX13_share 42 = .ok (.invokevirtual 326, 3) := by decide +kernel
theorem dX13_share_45 : decode cX13_share 45 = .ok (.lreturn, 1) := by decide +kernel
set_option maxRecDepth 20000 in
theorem ggX13_energy_X13_isStack : GoodIn wsX13_energy wsX13_isStack := goodIn_r _ [7, 8, 39, 40, 41, 42, 43, 44, 45, 46, 47, 48, 49, 50, 51, 52, 53, 54, 55, 56, 57, 58, 59, 60, 61, 62, 63, 64, 65, 66, 67, 68, 69, 70, 71, 72, 73, 74, 75, 76, 77, 78, 79, 80, 81, 82, 83, 84, 85, 86, 87, 88, 89, 90, 91, 92] (by decide +kernel) (by decide +kernel)
set_option maxRecDepth 20000 in
theorem gX13_energy_X13_isStack : GoodIn wsX13_energy (wsV RX13 307 RX13 yX13_isStack wsX13_isStack) := goodIn_app (goodIn_of _ (by decide +kernel)) ggX13_energy_X13_isStack
set_option maxRecDepth 20000 in
theorem ggX13_energy_X13_row : GoodIn wsX13_energy wsX13_row := goodIn_r _ [12, 13, 39, 40, 41, 42, 43, 44, 45, 46, 47, 48, 49, 50, 51, 52, 53, 54, 55, 56, 57, 58, 59, 60, 61, 62, 63, 64, 65, 66, 67, 68, 69, 70, 71, 72, 73, 74, 75, 76] (by decide +kernel) (by decide +kernel)
set_option maxRecDepth 20000 in
theorem gX13_energy_X13_row : GoodIn wsX13_energy (wsV RX13 312 RX13 yX13_row wsX13_row) := goodIn_app (goodIn_of _ (by decide +kernel)) ggX13_energy_X13_row
set_option maxRecDepth 20000 in
theorem ggX13_energy_X13_steps : GoodIn wsX13_energy wsX13_steps := goodIn_r _ [17, 13, 39, 40, 41, 42, 43, 44, 45, 46, 47, 48, 49, 50, 51, 52, 53, 54, 55, 56, 57, 58, 59, 60, 61, 62, 63, 64, 65, 66, 67, 68, 69, 70, 71, 72, 73, 74, 75, 76] (by decide +kernel) (by decide +kernel)
set_option maxRecDepth 20000 in
theorem gX13_energy_X13_steps : GoodIn wsX13_energy (wsV RX13 310 RX13 yX13_steps wsX13_steps) := goodIn_app (goodIn_of _ (by decide +kernel)) ggX13_energy_X13_steps
set_option maxRecDepth 20000 in
theorem ggX13_energy_X13_energyOf : GoodIn wsX13_energy wsX13_energyOf := goodIn_r _ [21, 8, 22, 23, 6, 24, 39, 40, 41, 42, 43, 44, 45, 46, 47, 48, 49, 50, 51, 52, 53, 54, 55, 56, 57, 58, 59, 60, 61, 62, 63, 64, 65, 66, 67, 68, 69, 70, 71, 72, 73, 74, 75, 76, 77, 78, 79, 80, 81, 82, 83, 84, 85, 86, 87, 88, 89, 90, 91, 92] (by decide +kernel) (by decide +kernel)
set_option maxRecDepth 20000 in
theorem gX13_energy_X13_energyOf : GoodIn wsX13_energy (wsV RX13 330 RX13 yX13_energyOf wsX13_energyOf) := goodIn_app (goodIn_of _ (by decide +kernel)) ggX13_energy_X13_energyOf
set_option maxRecDepth 20000 in
theorem ggX13_energy_X13_good : GoodIn wsX13_energy wsX13_good := goodIn_r _ [28, 29, 30, 39, 40, 41, 42, 43, 44, 45, 46, 47, 48, 49, 50, 51, 52, 53, 54, 55, 56, 57, 58, 59, 60, 61, 62, 63, 64, 65, 66, 67, 68, 69, 70, 71, 72, 73, 74, 75, 76] (by decide +kernel) (by decide +kernel)
set_option maxRecDepth 20000 in
theorem gX13_energy_X13_good : GoodIn wsX13_energy (wsV RX13 59 RX13 yX13_good wsX13_good) := goodIn_app (goodIn_of _ (by decide +kernel)) ggX13_energy_X13_good
set_option maxRecDepth 20000 in
theorem ggX13_energy_X13_lost : GoodIn wsX13_energy wsX13_lost := goodIn_r _ [34, 35, 36, 37, 6, 38, 29, 30, 39, 40, 41, 42, 43, 44, 45, 46, 47, 48, 49, 50, 51, 52, 53, 54, 55, 56, 57, 58, 59, 60, 61, 62, 63, 64, 65, 66, 67, 68, 69, 70, 71, 72, 73, 74, 75, 76] (by decide +kernel) (by decide +kernel)
set_option maxRecDepth 20000 in
theorem gX13_energy_X13_lost : GoodIn wsX13_energy (wsV RX13 320 RX13 yX13_lost wsX13_lost) := goodIn_app (goodIn_of _ (by decide +kernel)) ggX13_energy_X13_lost
theorem dX13_energy_0 : decode cX13_energy 0 = .ok (.aload_n 0, 1) := by decide +kernel
theorem dX13_energy_1 : decode cX13_energy 1 = .ok (.iconst 0, 1) := by decide +kernel
theorem dX13_energy_2 : decode cX13_energy 2 = .ok (.putfield 49, 3) := by decide +kernel
theorem dX13_energy_5 : decode cX13_energy 5 = .ok (.aload_n 0, 1) := by decide +kernel
theorem dX13_energy_6 : decode cX13_energy 6 = .ok (.iload_n 1, 1) := by decide +kernel
theorem dX13_energy_7 : decode cX13_energy 7 = .ok (.invokevirtual 307, 3) := by decide +kernel
theorem dX13_energy_10 : decode cX13_energy 10 = .ok (.ifCond .eq 24, 3) := by decide +kernel
theorem dX13_energy_13 : decode cX13_energy 13 = .ok (.aload_n 0, 1) := by decide +kernel
theorem dX13_energy_14 : decode cX13_energy 14 = .ok (.aload_n 0, 1) := by decide +kernel
theorem dX13_energy_15 : decode cX13_energy 15 = .ok (.aload_n 0, 1) := by decide +kernel
theorem dX13_energy_16 : decode cX13_energy 16 = .ok (.iload_n 1, 1) := by decide +kernel
theorem dX13_energy_17 : decode cX13_energy 17 = .ok (.invokevirtual 312, 3) := by decide +kernel
theorem dX13_energy_20 : decode cX13_energy 20 = .ok (.aload_n 0, 1) := by decide +kernel
theorem dX13_energy_21 : decode cX13_energy 21 = .ok (.iload_n 1, 1) := by decide +kernel
theorem dX13_energy_22 : decode cX13_energy 22 = .ok (.invokevirtual 310, 3) := by decide +kernel
theorem dX13_energy_25 : decode cX13_energy 25 = .ok (.invokevirtual 330, 3) := by decide +kernel
theorem dX13_energy_28 : decode cX13_energy 28 = .ok (.invokevirtual 59, 3) := by decide +kernel
theorem dX13_energy_31 : decode cX13_energy 31 = .ok (.goto 11, 3) := by decide +kernel
theorem dX13_energy_34 : decode cX13_energy 34 = .ok (.aload_n 0, 1) := by decide +kernel
theorem dX13_energy_35 : decode cX13_energy 35 = .ok (.iconst 1, 1) := by decide +kernel
theorem dX13_energy_36 : decode cX13_energy 36 = .ok (.ldc_w 333, 3) := by decide +kernel
theorem dX13_energy_39 : decode cX13_energy 39 = .ok (.invokevirtual 320, 3) := by decide +kernel
theorem dX13_energy_42 : decode cX13_energy 42 = .ok (.ireturn, 1) := by decide +kernel
set_option maxRecDepth 20000 in
theorem ggX13_calmest_X13_refused : GoodIn wsX13_calmest wsX13_refused := goodIn_r _ [7, 8, 9, 30, 31, 32, 33, 34, 35, 36, 37, 38, 39, 40, 41, 42, 43, 44, 45, 46, 47, 48, 49, 50, 51, 52, 53, 54, 55, 56, 57, 58, 59, 60, 61, 62, 63, 64, 65, 66, 67] (by decide +kernel) (by decide +kernel)
set_option maxRecDepth 20000 in
theorem gX13_calmest_X13_refused : GoodIn wsX13_calmest (wsV RX13 55 RX13 yX13_refused wsX13_refused) := goodIn_app (goodIn_of _ (by decide +kernel)) ggX13_calmest_X13_refused
set_option maxRecDepth 20000 in
theorem ggX13_calmest_X13_row : GoodIn wsX13_calmest wsX13_row := goodIn_r _ [13, 14, 30, 31, 32, 33, 34, 35, 36, 37, 38, 39, 40, 41, 42, 43, 44, 45, 46, 47, 48, 49, 50, 51, 52, 53, 54, 55, 56, 57, 58, 59, 60, 61, 62, 63, 64, 65, 66, 67] (by decide +kernel) (by decide +kernel)
set_option maxRecDepth 20000 in
theorem gX13_calmest_X13_row : GoodIn wsX13_calmest (wsV RX13 312 RX13 yX13_row wsX13_row) := goodIn_app (goodIn_of _ (by decide +kernel)) ggX13_calmest_X13_row
set_option maxRecDepth 20000 in
theorem ggX13_calmest_X13_steps : GoodIn wsX13_calmest wsX13_steps := goodIn_r _ [18, 14, 30, 31, 32, 33, 34, 35, 36, 37, 38, 39, 40, 41, 42, 43, 44, 45, 46, 47, 48, 49, 50, 51, 52, 53, 54, 55, 56, 57, 58, 59, 60, 61, 62, 63, 64, 65, 66, 67] (by decide +kernel) (by decide +kernel)
set_option maxRecDepth 20000 in
theorem gX13_calmest_X13_steps : GoodIn wsX13_calmest (wsV RX13 310 RX13 yX13_steps wsX13_steps) := goodIn_app (goodIn_of _ (by decide +kernel)) ggX13_calmest_X13_steps
set_option maxRecDepth 20000 in
theorem ggX13_calmest_X13_energyOf : GoodIn wsX13_calmest wsX13_energyOf := goodIn_r _ [22, 2, 23, 24, 6, 25, 30, 31, 32, 33, 34, 35, 36, 37, 38, 39, 40, 41, 42, 43, 44, 45, 46, 47, 48, 49, 50, 51, 52, 53, 54, 55, 56, 57, 58, 59, 60, 61, 62, 63, 64, 65, 66, 67, 68, 69, 70, 71, 72, 73, 74, 75, 76, 77, 78, 79, 80, 81, 82, 83] (by decide +kernel) (by decide +kernel)
set_option maxRecDepth 20000 in
theorem gX13_calmest_X13_energyOf : GoodIn wsX13_calmest (wsV RX13 330 RX13 yX13_energyOf wsX13_energyOf) := goodIn_app (goodIn_of _ (by decide +kernel)) ggX13_calmest_X13_energyOf
set_option maxRecDepth 20000 in
theorem ggX13_calmest_X13_good : GoodIn wsX13_calmest wsX13_good := goodIn_r _ [29, 8, 9, 30, 31, 32, 33, 34, 35, 36, 37, 38, 39, 40, 41, 42, 43, 44, 45, 46, 47, 48, 49, 50, 51, 52, 53, 54, 55, 56, 57, 58, 59, 60, 61, 62, 63, 64, 65, 66, 67] (by decide +kernel) (by decide +kernel)
set_option maxRecDepth 20000 in
theorem gX13_calmest_X13_good : GoodIn wsX13_calmest (wsV RX13 59 RX13 yX13_good wsX13_good) := goodIn_app (goodIn_of _ (by decide +kernel)) ggX13_calmest_X13_good
theorem dX13_calmest_0 : decode cX13_calmest 0 = .ok (.aload_n 0, 1) := by decide +kernel
theorem dX13_calmest_1 : decode cX13_calmest 1 = .ok (.iconst 0, 1) := by decide +kernel
theorem dX13_calmest_2 : decode cX13_calmest 2 = .ok (.putfield 49, 3) := by decide +kernel
theorem dX13_calmest_5 : decode cX13_calmest 5 = .ok (.aload_n 0, 1) := by decide +kernel
theorem dX13_calmest_6 : decode cX13_calmest 6 = .ok (.getfield 271, 3) := by decide +kernel
theorem dX13_calmest_9 : decode cX13_calmest 9 = .ok (.ifnonnull 9, 3) := by decide +kernel
theorem dX13_calmest_12 : decode cX13_calmest 12 = .ok (.aload_n 0, 1) := by decide +kernel
theorem dX13_calmest_13 : decode cX13_calmest 13 = .ok (.iconst 1, 1) := by decide +kernel
theorem dX13_calmest_14 : decode cX13_calmest 14 = .ok (.invokevirtual 55, 3) := by decide +kernel
theorem dX13_calmest_17 : decode cX13_calmest 17 = .ok (.ireturn, 1) := by decide +kernel
theorem dX13_calmest_18 : decode cX13_calmest 18 = .ok (.iconst 0, 1) := by decide +kernel
theorem dX13_calmest_19 : decode cX13_calmest 19 = .ok (.istore_n 1, 1) := by decide +kernel
theorem dX13_calmest_20 : decode cX13_calmest 20 = .ok (.iconst 1, 1) := by decide +kernel
theorem dX13_calmest_21 : decode cX13_calmest 21 = .ok (.istore_n 2, 1) := by decide +kernel
theorem dX13_calmest_22 : decode cX13_calmest 22 = .ok (.iload_n 2, 1) := by decide +kernel
theorem dX13_calmest_23 : decode cX13_calmest 23 = .ok (.aload_n 0, 1) := by decide +kernel
theorem dX13_calmest_24 : decode cX13_calmest 24 = .ok (.getfield 271, 3) := by decide +kernel
theorem dX13_calmest_27 : decode cX13_calmest 27 = .ok (.getfield 187, 3) := by decide +kernel
theorem dX13_calmest_30 : decode cX13_calmest 30 = .ok (.if_icmp .ge 54, 3) := by decide +kernel
theorem dX13_calmest_33 : decode cX13_calmest 33 = .ok (.aload_n 0, 1) := by decide +kernel
theorem dX13_calmest_34 : decode cX13_calmest 34 = .ok (.aload_n 0, 1) := by decide +kernel
theorem dX13_calmest_35 : decode cX13_calmest 35 = .ok (.iload_n 2, 1) := by decide +kernel
theorem dX13_calmest_36 : decode cX13_calmest 36 = .ok (.invokevirtual 312, 3) := by decide +kernel
theorem dX13_calmest_39 : decode cX13_calmest 39 = .ok (.aload_n 0, 1) := by decide +kernel
theorem dX13_calmest_40 : decode cX13_calmest 40 = .ok (.iload_n 2, 1) := by decide +kernel
theorem dX13_calmest_41 : decode cX13_calmest 41 = .ok (.invokevirtual 310, 3) := by decide +kernel
theorem dX13_calmest_44 : decode cX13_calmest 44 = .ok (.invokevirtual 330, 3) := by decide +kernel
theorem dX13_calmest_47 : decode cX13_calmest 47 = .ok (.aload_n 0, 1) := by decide +kernel
theorem dX13_calmest_48 : decode cX13_calmest 48 = .ok (.iload_n 1, 1) := by decide +kernel
theorem dX13_calmest_49 : decode cX13_calmest 49 = .ok (.invokevirtual 310, 3) := by decide +kernel
theorem dX13_calmest_52 : decode cX13_calmest 52 = .ok (.imul, 1) := by decide +kernel
theorem dX13_calmest_53 : decode cX13_calmest 53 = .ok (.aload_n 0, 1) := by decide +kernel
theorem dX13_calmest_54 : decode cX13_calmest 54 = .ok (.aload_n 0, 1) := by decide +kernel
theorem dX13_calmest_55 : decode cX13_calmest 55 = .ok (.iload_n 1, 1) := by decide +kernel
theorem dX13_calmest_56 : decode cX13_calmest 56 = .ok (.invokevirtual 312, 3) := by decide +kernel
theorem dX13_calmest_59 : decode cX13_calmest 59 = .ok (.aload_n 0, 1) := by decide +kernel
theorem dX13_calmest_60 : decode cX13_calmest 60 = .ok (.iload_n 1, 1) := by decide +kernel
theorem dX13_calmest_61 : decode cX13_calmest 61 = .ok (.invokevirtual 310, 3) := by decide +kernel
theorem dX13_calmest_64 : decode cX13_calmest 64 = .ok (.invokevirtual 330, 3) := by decide +kernel
theorem dX13_calmest_67 : decode cX13_calmest 67 = .ok (.aload_n 0, 1) := by decide +kernel
theorem dX13_calmest_68 : decode cX13_calmest 68 = .ok (.iload_n 2, 1) := by decide +kernel
theorem dX13_calmest_69 : decode cX13_calmest 69 = .ok (.invokevirtual 310, 3) := by decide +kernel
theorem dX13_calmest_72 : decode cX13_calmest 72 = .ok (.imul, 1) := by decide +kernel
theorem dX13_calmest_73 : decode cX13_calmest 73 = .ok (.if_icmp .ge 5, 3) := by decide +kernel
theorem dX13_calmest_76 : decode cX13_calmest 76 = .ok (.iload_n 2, 1) := by decide +kernel
theorem dX13_calmest_77 : decode cX13_calmest 77 = .ok (.istore_n 1, 1) := by decide +kernel
theorem dX13_calmest_78 : decode cX13_calmest 78 = .ok (.iinc 2 1, 3) := by decide +kernel
theorem dX13_calmest_81 : decode cX13_calmest 81 = .ok (.goto (-59), 3) := by decide +kernel
theorem dX13_calmest_84 : decode cX13_calmest 84 = .ok (.aload_n 0, 1) := by decide +kernel
theorem dX13_calmest_85 : decode cX13_calmest 85 = .ok (.iload_n 1, 1) := by decide +kernel
theorem dX13_calmest_86 : decode cX13_calmest 86 = .ok (.invokevirtual 59, 3) := by decide +kernel
theorem dX13_calmest_89 : decode cX13_calmest 89 = .ok (.ireturn, 1) := by decide +kernel
theorem dX13_takesOut_0 : decode cX13_takesOut 0 = .ok (.iconst 0, 1) := by decide +kernel
theorem dX13_takesOut_1 : decode cX13_takesOut 1 = .ok (.istore_n 3, 1) := by decide +kernel
theorem dX13_takesOut_2 : decode cX13_takesOut 2 = .ok (.iload_n 3, 1) := by decide +kernel
theorem dX13_takesOut_3 : decode cX13_takesOut 3 = .ok (.iload_n 1, 1) := by decide +kernel
theorem dX13_takesOut_4 : decode cX13_takesOut 4 = .ok (.if_icmp .ge 34, 3) := by decide +kernel
theorem dX13_takesOut_7 : decode cX13_takesOut 7 = .ok (.aload_n 0, 1) := by decide +kernel
theorem dX13_takesOut_8 : decode cX13_takesOut 8 = .ok (.getfield 33, 3) := by decide +kernel
theorem dX13_takesOut_11 : decode cX13_takesOut 11 = .ok (.iload_n 3, 1) := by decide +kernel
theorem dX13_takesOut_12 : decode cX13_takesOut 12 = .ok (.aload_n 0, 1) := by decide +kernel
theorem dX13_takesOut_13 : decode cX13_takesOut 13 = .ok (.getfield 30, 3) := by decide +kernel
theorem dX13_takesOut_16 : decode cX13_takesOut 16 = .ok (.iload_n 3, 1) := by decide +kernel
theorem dX13_takesOut_17 : decode cX13_takesOut 17 = .ok (.iaload, 1) := by decide +kernel
theorem dX13_takesOut_18 : decode cX13_takesOut 18 = .ok (.aload_n 0, 1) := by decide +kernel
theorem dX13_takesOut_19 : decode cX13_takesOut 19 = .ok (.getfield 30, 3) := by decide +kernel
theorem dX13_takesOut_22 : decode cX13_takesOut 22 = .ok (.iload_n 3, 1) := by decide +kernel
theorem dX13_takesOut_23 : decode cX13_takesOut 23 = .ok (.iload_n 1, 1) := by decide +kernel
theorem dX13_takesOut_24 : decode cX13_takesOut 24 = .ok (.iadd, 1) := by decide +kernel
theorem dX13_takesOut_25 : decode cX13_takesOut 25 = .ok (.iload_n 2, 1) := by decide +kernel
theorem dX13_takesOut_26 : decode cX13_takesOut 26 = .ok (.isub, 1) := by decide +kernel
theorem dX13_takesOut_27 : decode cX13_takesOut 27 = .ok (.iload_n 1, 1) := by decide +kernel
theorem dX13_takesOut_28 : decode cX13_takesOut 28 = .ok (.irem, 1) := by decide +kernel
theorem dX13_takesOut_29 : decode cX13_takesOut 29 = .ok (.iaload, 1) := by decide +kernel
theorem dX13_takesOut_30 : decode cX13_takesOut 30 = .ok (.isub, 1) := by decide +kernel
theorem dX13_takesOut_31 : decode cX13_takesOut 31 = .ok (.iastore, 1) := by decide +kernel
theorem dX13_takesOut_32 : decode cX13_takesOut 32 = .ok (.iinc 3 1, 3) := by decide +kernel
theorem dX13_takesOut_35 : decode cX13_takesOut 35 = .ok (.goto (-33), 3) := by decide +kernel
theorem dX13_takesOut_38 : decode cX13_takesOut 38 = .ok (.iconst 0, 1) := by decide +kernel
theorem dX13_takesOut_39 : decode cX13_takesOut 39 = .ok (.istore_n 3, 1) := by decide +kernel
theorem dX13_takesOut_40 : decode cX13_takesOut 40 = .ok (.iload_n 3, 1) := by decide +kernel
theorem dX13_takesOut_41 : decode cX13_takesOut 41 = .ok (.iload_n 1, 1) := by decide +kernel
theorem dX13_takesOut_42 : decode cX13_takesOut 42 = .ok (.if_icmp .ge 21, 3) := by decide +kernel
theorem dX13_takesOut_45 : decode cX13_takesOut 45 = .ok (.aload_n 0, 1) := by decide +kernel
theorem dX13_takesOut_46 : decode cX13_takesOut 46 = .ok (.getfield 30, 3) := by decide +kernel
theorem dX13_takesOut_49 : decode cX13_takesOut 49 = .ok (.iload_n 3, 1) := by decide +kernel
theorem dX13_takesOut_50 : decode cX13_takesOut 50 = .ok (.aload_n 0, 1) := by decide +kernel
theorem dX13_takesOut_51 : decode cX13_takesOut 51 = .ok (.getfield 33, 3) := by decide +kernel
theorem dX13_takesOut_54 : decode cX13_takesOut 54 = .ok (.iload_n 3, 1) := by decide +kernel
theorem dX13_takesOut_55 : decode cX13_takesOut 55 = .ok (.iaload, 1) := by decide +kernel
theorem dX13_takesOut_56 : decode cX13_takesOut 56 = .ok (.iastore, 1) := by decide +kernel
theorem dX13_takesOut_57 : decode cX13_takesOut 57 = .ok (.iinc 3 1, 3) := by decide +kernel
theorem dX13_takesOut_60 : decode cX13_takesOut 60 = .ok (.goto (-20), 3) := by decide +kernel
theorem dX13_takesOut_63 : decode cX13_takesOut 63 = .ok (.return_, 1) := by decide +kernel
set_option maxRecDepth 20000 in
theorem ggX13_isOut_X13_takesOut : GoodIn wsX13_isOut wsX13_takesOut := goodIn_r _ [7, 8, 1, 9, 10, 11, 12, 13, 14, 15, 16, 17, 18, 19, 20, 21, 22, 23, 24, 25, 26, 27, 28, 29, 30, 31, 32, 33, 34, 35, 36, 37, 38, 39, 40, 41, 42, 43, 44, 45, 46] (by decide +kernel) (by decide +kernel)
set_option maxRecDepth 20000 in
theorem gX13_isOut_X13_takesOut : GoodIn wsX13_isOut (wsV RX13 334 RX13 yX13_takesOut wsX13_takesOut) := goodIn_app (goodIn_of _ (by decide +kernel)) ggX13_isOut_X13_takesOut
theorem dX13_isOut_0 : decode cX13_isOut 0 = .ok (.iconst 3, 1) := by decide +kernel
theorem dX13_isOut_1 : decode cX13_isOut 1 = .ok (.iload_n 1, 1) := by decide +kernel
theorem dX13_isOut_2 : decode cX13_isOut 2 = .ok (.imul, 1) := by decide +kernel
theorem dX13_isOut_3 : decode cX13_isOut 3 = .ok (.istore_n 3, 1) := by decide +kernel
theorem dX13_isOut_4 : decode cX13_isOut 4 = .ok (.iconst 0, 1) := by decide +kernel
theorem dX13_isOut_5 : decode cX13_isOut 5 = .ok (.istore 4, 2) := by decide +kernel
theorem dX13_isOut_7 : decode cX13_isOut 7 = .ok (.iload 4, 2) := by decide +kernel
theorem dX13_isOut_9 : decode cX13_isOut 9 = .ok (.iload_n 3, 1) := by decide +kernel
theorem dX13_isOut_10 : decode cX13_isOut 10 = .ok (.if_icmp .ge 17, 3) := by decide +kernel
theorem dX13_isOut_13 : decode cX13_isOut 13 = .ok (.aload_n 0, 1) := by decide +kernel
theorem dX13_isOut_14 : decode cX13_isOut 14 = .ok (.getfield 30, 3) := by decide +kernel
theorem dX13_isOut_17 : decode cX13_isOut 17 = .ok (.iload 4, 2) := by decide +kernel
theorem dX13_isOut_19 : decode cX13_isOut 19 = .ok (.iconst 0, 1) := by decide +kernel
theorem dX13_isOut_20 : decode cX13_isOut 20 = .ok (.iastore, 1) := by decide +kernel
theorem dX13_isOut_21 : decode cX13_isOut 21 = .ok (.iinc 4 1, 3) := by decide +kernel
theorem dX13_isOut_24 : decode cX13_isOut 24 = .ok (.goto (-17), 3) := by decide +kernel
theorem dX13_isOut_27 : decode cX13_isOut 27 = .ok (.iconst 0, 1) := by decide +kernel
theorem dX13_isOut_28 : decode cX13_isOut 28 = .ok (.istore 4, 2) := by decide +kernel
theorem dX13_isOut_30 : decode cX13_isOut 30 = .ok (.iload 4, 2) := by decide +kernel
theorem dX13_isOut_32 : decode cX13_isOut 32 = .ok (.iload_n 1, 1) := by decide +kernel
theorem dX13_isOut_33 : decode cX13_isOut 33 = .ok (.if_icmp .ge 36, 3) := by decide +kernel
theorem dX13_isOut_36 : decode cX13_isOut 36 = .ok (.aload_n 0, 1) := by decide +kernel
theorem dX13_isOut_37 : decode cX13_isOut 37 = .ok (.getfield 30, 3) := by decide +kernel
theorem dX13_isOut_40 : decode cX13_isOut 40 = .ok (.iconst 3, 1) := by decide +kernel
theorem dX13_isOut_41 : decode cX13_isOut 41 = .ok (.iload 4, 2) := by decide +kernel
theorem dX13_isOut_43 : decode cX13_isOut 43 = .ok (.imul, 1) := by decide +kernel
theorem dX13_isOut_44 : decode cX13_isOut 44 = .ok (.iload_n 2, 1) := by decide +kernel
theorem dX13_isOut_45 : decode cX13_isOut 45 = .ok (.imul, 1) := by decide +kernel
theorem dX13_isOut_46 : decode cX13_isOut 46 = .ok (.iload_n 1, 1) := by decide +kernel
theorem dX13_isOut_47 : decode cX13_isOut 47 = .ok (.aload_n 0, 1) := by decide +kernel
theorem dX13_isOut_48 : decode cX13_isOut 48 = .ok (.getfield 27, 3) := by decide +kernel
theorem dX13_isOut_51 : decode cX13_isOut 51 = .ok (.iload 4, 2) := by decide +kernel
theorem dX13_isOut_53 : decode cX13_isOut 53 = .ok (.iaload, 1) := by decide +kernel
theorem dX13_isOut_54 : decode cX13_isOut 54 = .ok (.imul, 1) := by decide +kernel
theorem dX13_isOut_55 : decode cX13_isOut 55 = .ok (.iadd, 1) := by decide +kernel
theorem dX13_isOut_56 : decode cX13_isOut 56 = .ok (.iload_n 3, 1) := by decide +kernel
theorem dX13_isOut_57 : decode cX13_isOut 57 = .ok (.irem, 1) := by decide +kernel
theorem dX13_isOut_58 : decode cX13_isOut 58 = .ok (.dup2, 1) := by decide +kernel
theorem dX13_isOut_59 : decode cX13_isOut 59 = .ok (.iaload, 1) := by decide +kernel
theorem dX13_isOut_60 : decode cX13_isOut 60 = .ok (.iconst 1, 1) := by decide +kernel
theorem dX13_isOut_61 : decode cX13_isOut 61 = .ok (.iadd, 1) := by decide +kernel
theorem dX13_isOut_62 : decode cX13_isOut 62 = .ok (.iastore, 1) := by decide +kernel
theorem dX13_isOut_63 : decode cX13_isOut 63 = .ok (.iinc 4 1, 3) := by decide +kernel
theorem dX13_isOut_66 : decode cX13_isOut 66 = .ok (.goto (-36), 3) := by decide +kernel
theorem dX13_isOut_69 : decode cX13_isOut 69 = .ok (.iload_n 3, 1) := by decide +kernel
theorem dX13_isOut_70 : decode cX13_isOut 70 = .ok (.istore 4, 2) := by decide +kernel
theorem dX13_isOut_72 : decode cX13_isOut 72 = .ok (.iconst 2, 1) := by decide +kernel
theorem dX13_isOut_73 : decode cX13_isOut 73 = .ok (.istore 5, 2) := by decide +kernel
theorem dX13_isOut_75 : decode cX13_isOut 75 = .ok (.iload 5, 2) := by decide +kernel
theorem dX13_isOut_77 : decode cX13_isOut 77 = .ok (.iload 4, 2) := by decide +kernel
theorem dX13_isOut_79 : decode cX13_isOut 79 = .ok (.if_icmp .gt 47, 3) := by decide +kernel
theorem dX13_isOut_82 : decode cX13_isOut 82 = .ok (.iload 4, 2) := by decide +kernel
theorem dX13_isOut_84 : decode cX13_isOut 84 = .ok (.iload 5, 2) := by decide +kernel
theorem dX13_isOut_86 : decode cX13_isOut 86 = .ok (.irem, 1) := by decide +kernel
theorem dX13_isOut_87 : decode cX13_isOut 87 = .ok (.ifCond .eq 6, 3) := by decide +kernel
theorem dX13_isOut_90 : decode cX13_isOut 90 = .ok (.goto 30, 3) := by decide +kernel
theorem dX13_isOut_93 : decode cX13_isOut 93 = .ok (.aload_n 0, 1) := by decide +kernel
theorem dX13_isOut_94 : decode cX13_isOut 94 = .ok (.iload_n 3, 1) := by decide +kernel
theorem dX13_isOut_95 : decode cX13_isOut 95 = .ok (.iload_n 3, 1) := by decide +kernel
theorem dX13_isOut_96 : decode cX13_isOut 96 = .ok (.iload 5, 2) := by decide +kernel
theorem dX13_isOut_98 : decode cX13_isOut 98 = .ok (.idiv, 1) := by decide +kernel
theorem dX13_isOut_99 : decode cX13_isOut 99 = .ok (.invokevirtual 334, 3) := by decide +kernel
theorem dX13_isOut_102 : decode cX13_isOut 102 = .ok (.iload 4, 2) := by decide +kernel
theorem dX13_isOut_104 : decode cX13_isOut 104 = .ok (.iload 5, 2) := by decide +kernel
theorem dX13_isOut_106 : decode cX13_isOut 106 = .ok (.irem, 1) := by decide +kernel
theorem dX13_isOut_107 : decode cX13_isOut 107 = .ok (.ifCond .ne 13, 3) := by decide +kernel
theorem dX13_isOut_110 : decode cX13_isOut 110 = .ok (.iload 4, 2) := by decide +kernel
theorem dX13_isOut_112 : decode cX13_isOut 112 = .ok (.iload 5, 2) := by decide +kernel
theorem dX13_isOut_114 : decode cX13_isOut 114 = .ok (.idiv, 1) := by decide +kernel
theorem dX13_isOut_115 : decode cX13_isOut 115 = .ok (.istore 4, 2) := by decide +kernel
theorem dX13_isOut_117 : decode cX13_isOut 117 = .ok (.goto (-15), 3) := by decide +kernel
theorem dX13_isOut_120 : decode cX13_isOut 120 = .ok (.iinc 5 1, 3) := by decide +kernel
theorem dX13_isOut_123 : decode cX13_isOut 123 = .ok (.goto (-48), 3) := by decide +kernel
theorem dX13_isOut_126 : decode cX13_isOut 126 = .ok (.iconst 0, 1) := by decide +kernel
theorem dX13_isOut_127 : decode cX13_isOut 127 = .ok (.istore 5, 2) := by decide +kernel
theorem dX13_isOut_129 : decode cX13_isOut 129 = .ok (.iload 5, 2) := by decide +kernel
theorem dX13_isOut_131 : decode cX13_isOut 131 = .ok (.iload_n 3, 1) := by decide +kernel
theorem dX13_isOut_132 : decode cX13_isOut 132 = .ok (.if_icmp .ge 21, 3) := by decide +kernel
theorem dX13_isOut_135 : decode cX13_isOut 135 = .ok (.aload_n 0, 1) := by decide +kernel
theorem dX13_isOut_136 : decode cX13_isOut 136 = .ok (.getfield 30, 3) := by decide +kernel
theorem dX13_isOut_139 : decode cX13_isOut 139 = .ok (.iload 5, 2) := by decide +kernel
theorem dX13_isOut_141 : decode cX13_isOut 141 = .ok (.iaload, 1) := by decide +kernel
theorem dX13_isOut_142 : decode cX13_isOut 142 = .ok (.ifCond .eq 5, 3) := by decide +kernel
theorem dX13_isOut_145 : decode cX13_isOut 145 = .ok (.iconst 0, 1) := by decide +kernel
theorem dX13_isOut_146 : decode cX13_isOut 146 = .ok (.ireturn, 1) := by decide +kernel
theorem dX13_isOut_147 : decode cX13_isOut 147 = .ok (.iinc 5 1, 3) := by decide +kernel
theorem dX13_isOut_150 : decode cX13_isOut 150 = .ok (.goto (-21), 3) := by decide +kernel
theorem dX13_isOut_153 : decode cX13_isOut 153 = .ok (.iconst 1, 1) := by decide +kernel
theorem dX13_isOut_154 : decode cX13_isOut 154 = .ok (.ireturn, 1) := by decide +kernel
set_option maxRecDepth 20000 in
theorem ggX13_out_X13_isStack : GoodIn wsX13_out wsX13_isStack := goodIn_r _ [6, 7, 57, 58, 59, 60, 61, 62, 63, 64, 65, 66, 67, 68, 69, 70, 71, 72, 73, 74, 75, 76, 77, 78, 79, 80, 81, 82, 83, 84, 85, 86, 87, 88, 89, 90, 91, 92, 93, 94, 95, 96, 97, 98, 99, 100, 101, 102, 103, 104, 105, 106, 107, 108, 109, 110] (by decide +kernel) (by decide +kernel)
set_option maxRecDepth 20000 in
theorem gX13_out_X13_isStack : GoodIn wsX13_out (wsV RX13 307 RX13 yX13_isStack wsX13_isStack) := goodIn_app (goodIn_of _ (by decide +kernel)) ggX13_out_X13_isStack
set_option maxRecDepth 20000 in
theorem ggX13_out_X13_refused : GoodIn wsX13_out wsX13_refused := goodIn_r _ [11, 12, 13, 57, 58, 59, 60, 61, 62, 63, 64, 65, 66, 67, 68, 69, 70, 71, 72, 73, 74, 75, 76, 77, 78, 79, 80, 81, 82, 83, 84, 85, 86, 87, 88, 89, 90, 91, 92, 93, 94] (by decide +kernel) (by decide +kernel)
set_option maxRecDepth 20000 in
theorem gX13_out_X13_refused : GoodIn wsX13_out (wsV RX13 55 RX13 yX13_refused wsX13_refused) := goodIn_app (goodIn_of _ (by decide +kernel)) ggX13_out_X13_refused
set_option maxRecDepth 20000 in
theorem ggX13_out_X13_row : GoodIn wsX13_out wsX13_row := goodIn_r _ [17, 18, 57, 58, 59, 60, 61, 62, 63, 64, 65, 66, 67, 68, 69, 70, 71, 72, 73, 74, 75, 76, 77, 78, 79, 80, 81, 82, 83, 84, 85, 86, 87, 88, 89, 90, 91, 92, 93, 94] (by decide +kernel) (by decide +kernel)
set_option maxRecDepth 20000 in
theorem gX13_out_X13_row : GoodIn wsX13_out (wsV RX13 312 RX13 yX13_row wsX13_row) := goodIn_app (goodIn_of _ (by decide +kernel)) ggX13_out_X13_row
set_option maxRecDepth 20000 in
theorem ggX13_out_X13_steps : GoodIn wsX13_out wsX13_steps := goodIn_r _ [22, 18, 57, 58, 59, 60, 61, 62, 63, 64, 65, 66, 67, 68, 69, 70, 71, 72, 73, 74, 75, 76, 77, 78, 79, 80, 81, 82, 83, 84, 85, 86, 87, 88, 89, 90, 91, 92, 93, 94] (by decide +kernel) (by decide +kernel)
set_option maxRecDepth 20000 in
theorem gX13_out_X13_steps : GoodIn wsX13_out (wsV RX13 310 RX13 yX13_steps wsX13_steps) := goodIn_app (goodIn_of _ (by decide +kernel)) ggX13_out_X13_steps
set_option maxRecDepth 20000 in
theorem ggX13_out_X13_lays : GoodIn wsX13_out wsX13_lays := goodIn_r _ [26, 27, 28, 29, 5, 30, 31, 32, 33, 34, 35, 36, 37, 38, 39, 57, 58, 59, 60, 61, 62, 63, 64, 65, 66, 67, 68, 69, 70, 71, 72, 73, 74, 75, 76, 77, 78, 79, 80, 81, 82, 83, 84, 85, 86, 87, 88, 89, 90, 91, 92, 93, 94] (by decide +kernel) (by decide +kernel)
set_option maxRecDepth 20000 in
theorem gX13_out_X13_lays : GoodIn wsX13_out (wsV RX13 298 RX13 yX13_lays wsX13_lays) := goodIn_app (goodIn_of _ (by decide +kernel)) ggX13_out_X13_lays
set_option maxRecDepth 20000 in
theorem ggX13_out_X13_in : GoodIn wsX13_out wsX13_in := goodIn_r _ [42] (by decide +kernel) (by decide +kernel)
set_option maxRecDepth 20000 in
theorem gX13_out_X13_in : GoodIn wsX13_out (va_wsS RX13 137 yX13_in wsX13_in) := goodIn_app (goodIn_of _ (by decide +kernel)) ggX13_out_X13_in
set_option maxRecDepth 20000 in
theorem ggX13_out_X13_isOut : GoodIn wsX13_out wsX13_isOut := goodIn_r _ [46, 47, 27, 48, 49, 50, 5, 51, 52, 57, 58, 59, 60, 61, 62, 63, 64, 65, 66, 67, 68, 69, 70, 71, 72, 73, 74, 75, 76, 77, 78, 79, 80, 81, 82, 83, 84, 85, 86, 87, 88, 89, 90, 91, 92, 93, 94] (by decide +kernel) (by decide +kernel)
set_option maxRecDepth 20000 in
theorem gX13_out_X13_isOut : GoodIn wsX13_out (wsV RX13 337 RX13 yX13_isOut wsX13_isOut) := goodIn_app (goodIn_of _ (by decide +kernel)) ggX13_out_X13_isOut
set_option maxRecDepth 20000 in
theorem ggX13_out_X13_good : GoodIn wsX13_out wsX13_good := goodIn_r _ [56, 12, 13, 57, 58, 59, 60, 61, 62, 63, 64, 65, 66, 67, 68, 69, 70, 71, 72, 73, 74, 75, 76, 77, 78, 79, 80, 81, 82, 83, 84, 85, 86, 87, 88, 89, 90, 91, 92, 93, 94] (by decide +kernel) (by decide +kernel)
set_option maxRecDepth 20000 in
theorem gX13_out_X13_good : GoodIn wsX13_out (wsV RX13 59 RX13 yX13_good wsX13_good) := goodIn_app (goodIn_of _ (by decide +kernel)) ggX13_out_X13_good
theorem dX13_out_0 : decode cX13_out 0 = .ok (.aload_n 0, 1) := by decide +kernel
theorem dX13_out_1 : decode cX13_out 1 = .ok (.iconst 0, 1) := by decide +kernel
theorem dX13_out_2 : decode cX13_out 2 = .ok (.putfield 49, 3) := by decide +kernel
theorem dX13_out_5 : decode cX13_out 5 = .ok (.aload_n 0, 1) := by decide +kernel
theorem dX13_out_6 : decode cX13_out 6 = .ok (.iload_n 1, 1) := by decide +kernel
theorem dX13_out_7 : decode cX13_out 7 = .ok (.invokevirtual 307, 3) := by decide +kernel
theorem dX13_out_10 : decode cX13_out 10 = .ok (.ifCond .ne 9, 3) := by decide +kernel
theorem dX13_out_13 : decode cX13_out 13 = .ok (.aload_n 0, 1) := by decide +kernel
theorem dX13_out_14 : decode cX13_out 14 = .ok (.iconst 1, 1) := by decide +kernel
theorem dX13_out_15 : decode cX13_out 15 = .ok (.invokevirtual 55, 3) := by decide +kernel
theorem dX13_out_18 : decode cX13_out 18 = .ok (.ireturn, 1) := by decide +kernel
theorem dX13_out_19 : decode cX13_out 19 = .ok (.aload_n 0, 1) := by decide +kernel
theorem dX13_out_20 : decode cX13_out 20 = .ok (.aload_n 0, 1) := by decide +kernel
theorem dX13_out_21 : decode cX13_out 21 = .ok (.iload_n 1, 1) := by decide +kernel
theorem dX13_out_22 : decode cX13_out 22 = .ok (.invokevirtual 312, 3) := by decide +kernel
theorem dX13_out_25 : decode cX13_out 25 = .ok (.aload_n 0, 1) := by decide +kernel
theorem dX13_out_26 : decode cX13_out 26 = .ok (.iload_n 1, 1) := by decide +kernel
theorem dX13_out_27 : decode cX13_out 27 = .ok (.invokevirtual 310, 3) := by decide +kernel
theorem dX13_out_30 : decode cX13_out 30 = .ok (.invokevirtual 298, 3) := by decide +kernel
theorem dX13_out_33 : decode cX13_out 33 = .ok (.istore_n 3, 1) := by decide +kernel
theorem dX13_out_34 : decode cX13_out 34 = .ok (.iload_n 2, 1) := by decide +kernel
theorem dX13_out_35 : decode cX13_out 35 = .ok (.iconst 0, 1) := by decide +kernel
theorem dX13_out_36 : decode cX13_out 36 = .ok (.iload_n 3, 1) := by decide +kernel
theorem dX13_out_37 : decode cX13_out 37 = .ok (.iconst 1, 1) := by decide +kernel
theorem dX13_out_38 : decode cX13_out 38 = .ok (.isub, 1) := by decide +kernel
theorem dX13_out_39 : decode cX13_out 39 = .ok (.invokestatic 137, 3) := by decide +kernel
theorem dX13_out_42 : decode cX13_out 42 = .ok (.ifCond .ne 9, 3) := by decide +kernel
theorem dX13_out_45 : decode cX13_out 45 = .ok (.aload_n 0, 1) := by decide +kernel
theorem dX13_out_46 : decode cX13_out 46 = .ok (.iconst 2, 1) := by decide +kernel
theorem dX13_out_47 : decode cX13_out 47 = .ok (.invokevirtual 55, 3) := by decide +kernel
theorem dX13_out_50 : decode cX13_out 50 = .ok (.ireturn, 1) := by decide +kernel
theorem dX13_out_51 : decode cX13_out 51 = .ok (.aload_n 0, 1) := by decide +kernel
theorem dX13_out_52 : decode cX13_out 52 = .ok (.aload_n 0, 1) := by decide +kernel
theorem dX13_out_53 : decode cX13_out 53 = .ok (.iload_n 3, 1) := by decide +kernel
theorem dX13_out_54 : decode cX13_out 54 = .ok (.iload_n 2, 1) := by decide +kernel
theorem dX13_out_55 : decode cX13_out 55 = .ok (.invokevirtual 337, 3) := by decide +kernel
theorem dX13_out_58 : decode cX13_out 58 = .ok (.ifCond .eq 7, 3) := by decide +kernel
theorem dX13_out_61 : decode cX13_out 61 = .ok (.iconst 1, 1) := by decide +kernel
theorem dX13_out_62 : decode cX13_out 62 = .ok (.goto 4, 3) := by decide +kernel
theorem dX13_out_65 : decode cX13_out 65 = .ok (.iconst 0, 1) := by decide +kernel
theorem dX13_out_66 : decode cX13_out 66 = .ok (.invokevirtual 59, 3) := by decide +kernel
theorem dX13_out_69 : decode cX13_out 69 = .ok (.ireturn, 1) := by decide +kernel
set_option maxRecDepth 20000 in
theorem ggX13_outs_X13_isStack : GoodIn wsX13_outs wsX13_isStack := goodIn_r _ [6, 7, 54, 55, 56, 57, 58, 59, 60, 61, 62, 63, 64, 65, 66, 67, 68, 69, 70, 71, 72, 73, 74, 75, 76, 77, 78, 79, 80, 81, 82, 83, 84, 85, 86, 87, 88, 89, 90, 91, 92, 93, 94, 95, 96, 97, 98, 99, 100, 101, 102, 103, 104, 105, 106, 107] (by decide +kernel) (by decide +kernel)
set_option maxRecDepth 20000 in
theorem gX13_outs_X13_isStack : GoodIn wsX13_outs (wsV RX13 307 RX13 yX13_isStack wsX13_isStack) := goodIn_app (goodIn_of _ (by decide +kernel)) ggX13_outs_X13_isStack
set_option maxRecDepth 20000 in
theorem ggX13_outs_X13_refused : GoodIn wsX13_outs wsX13_refused := goodIn_r _ [11, 12, 13, 54, 55, 56, 57, 58, 59, 60, 61, 62, 63, 64, 65, 66, 67, 68, 69, 70, 71, 72, 73, 74, 75, 76, 77, 78, 79, 80, 81, 82, 83, 84, 85, 86, 87, 88, 89, 90, 91] (by decide +kernel) (by decide +kernel)
set_option maxRecDepth 20000 in
theorem gX13_outs_X13_refused : GoodIn wsX13_outs (wsV RX13 55 RX13 yX13_refused wsX13_refused) := goodIn_app (goodIn_of _ (by decide +kernel)) ggX13_outs_X13_refused
set_option maxRecDepth 20000 in
theorem ggX13_outs_X13_row : GoodIn wsX13_outs wsX13_row := goodIn_r _ [17, 18, 54, 55, 56, 57, 58, 59, 60, 61, 62, 63, 64, 65, 66, 67, 68, 69, 70, 71, 72, 73, 74, 75, 76, 77, 78, 79, 80, 81, 82, 83, 84, 85, 86, 87, 88, 89, 90, 91] (by decide +kernel) (by decide +kernel)
set_option maxRecDepth 20000 in
theorem gX13_outs_X13_row : GoodIn wsX13_outs (wsV RX13 312 RX13 yX13_row wsX13_row) := goodIn_app (goodIn_of _ (by decide +kernel)) ggX13_outs_X13_row
set_option maxRecDepth 20000 in
theorem ggX13_outs_X13_steps : GoodIn wsX13_outs wsX13_steps := goodIn_r _ [22, 18, 54, 55, 56, 57, 58, 59, 60, 61, 62, 63, 64, 65, 66, 67, 68, 69, 70, 71, 72, 73, 74, 75, 76, 77, 78, 79, 80, 81, 82, 83, 84, 85, 86, 87, 88, 89, 90, 91] (by decide +kernel) (by decide +kernel)
set_option maxRecDepth 20000 in
theorem gX13_outs_X13_steps : GoodIn wsX13_outs (wsV RX13 310 RX13 yX13_steps wsX13_steps) := goodIn_app (goodIn_of _ (by decide +kernel)) ggX13_outs_X13_steps
set_option maxRecDepth 20000 in
theorem ggX13_outs_X13_lays : GoodIn wsX13_outs wsX13_lays := goodIn_r _ [26, 27, 28, 29, 5, 30, 31, 32, 33, 34, 35, 36, 37, 38, 39, 54, 55, 56, 57, 58, 59, 60, 61, 62, 63, 64, 65, 66, 67, 68, 69, 70, 71, 72, 73, 74, 75, 76, 77, 78, 79, 80, 81, 82, 83, 84, 85, 86, 87, 88, 89, 90, 91] (by decide +kernel) (by decide +kernel)
set_option maxRecDepth 20000 in
theorem gX13_outs_X13_lays : GoodIn wsX13_outs (wsV RX13 298 RX13 yX13_lays wsX13_lays) := goodIn_app (goodIn_of _ (by decide +kernel)) ggX13_outs_X13_lays
set_option maxRecDepth 20000 in
theorem ggX13_outs_X13_isOut : GoodIn wsX13_outs wsX13_isOut := goodIn_r _ [43, 44, 27, 45, 46, 47, 5, 48, 49, 54, 55, 56, 57, 58, 59, 60, 61, 62, 63, 64, 65, 66, 67, 68, 69, 70, 71, 72, 73, 74, 75, 76, 77, 78, 79, 80, 81, 82, 83, 84, 85, 86, 87, 88, 89, 90, 91] (by decide +kernel) (by decide +kernel)
set_option maxRecDepth 20000 in
theorem gX13_outs_X13_isOut : GoodIn wsX13_outs (wsV RX13 337 RX13 yX13_isOut wsX13_isOut) := goodIn_app (goodIn_of _ (by decide +kernel)) ggX13_outs_X13_isOut
set_option maxRecDepth 20000 in
theorem ggX13_outs_X13_good : GoodIn wsX13_outs wsX13_good := goodIn_r _ [53, 12, 13, 54, 55, 56, 57, 58, 59, 60, 61, 62, 63, 64, 65, 66, 67, 68, 69, 70, 71, 72, 73, 74, 75, 76, 77, 78, 79, 80, 81, 82, 83, 84, 85, 86, 87, 88, 89, 90, 91] (by decide +kernel) (by decide +kernel)
set_option maxRecDepth 20000 in
theorem gX13_outs_X13_good : GoodIn wsX13_outs (wsV RX13 59 RX13 yX13_good wsX13_good) := goodIn_app (goodIn_of _ (by decide +kernel)) ggX13_outs_X13_good
theorem dX13_outs_0 : decode cX13_outs 0 = .ok (.aload_n 0, 1) := by decide +kernel
theorem dX13_outs_1 : decode cX13_outs 1 = .ok (.iconst 0, 1) := by decide +kernel
theorem dX13_outs_2 : decode cX13_outs 2 = .ok (.putfield 49, 3) := by decide +kernel
theorem dX13_outs_5 : decode cX13_outs 5 = .ok (.aload_n 0, 1) := by decide +kernel
theorem dX13_outs_6 : decode cX13_outs 6 = .ok (.iload_n 1, 1) := by decide +kernel
theorem dX13_outs_7 : decode cX13_outs 7 = .ok (.invokevirtual 307, 3) := by decide +kernel
theorem dX13_outs_10 : decode cX13_outs 10 = .ok (.ifCond .ne 9, 3) := by decide +kernel
theorem dX13_outs_13 : decode cX13_outs 13 = .ok (.aload_n 0, 1) := by decide +kernel
theorem dX13_outs_14 : decode cX13_outs 14 = .ok (.iconst 1, 1) := by decide +kernel
theorem dX13_outs_15 : decode cX13_outs 15 = .ok (.invokevirtual 55, 3) := by decide +kernel
theorem dX13_outs_18 : decode cX13_outs 18 = .ok (.ireturn, 1) := by decide +kernel
theorem dX13_outs_19 : decode cX13_outs 19 = .ok (.aload_n 0, 1) := by decide +kernel
theorem dX13_outs_20 : decode cX13_outs 20 = .ok (.aload_n 0, 1) := by decide +kernel
theorem dX13_outs_21 : decode cX13_outs 21 = .ok (.iload_n 1, 1) := by decide +kernel
theorem dX13_outs_22 : decode cX13_outs 22 = .ok (.invokevirtual 312, 3) := by decide +kernel
theorem dX13_outs_25 : decode cX13_outs 25 = .ok (.aload_n 0, 1) := by decide +kernel
theorem dX13_outs_26 : decode cX13_outs 26 = .ok (.iload_n 1, 1) := by decide +kernel
theorem dX13_outs_27 : decode cX13_outs 27 = .ok (.invokevirtual 310, 3) := by decide +kernel
theorem dX13_outs_30 : decode cX13_outs 30 = .ok (.invokevirtual 298, 3) := by decide +kernel
theorem dX13_outs_33 : decode cX13_outs 33 = .ok (.istore_n 2, 1) := by decide +kernel
theorem dX13_outs_34 : decode cX13_outs 34 = .ok (.iconst 0, 1) := by decide +kernel
theorem dX13_outs_35 : decode cX13_outs 35 = .ok (.istore_n 3, 1) := by decide +kernel
theorem dX13_outs_36 : decode cX13_outs 36 = .ok (.iconst 0, 1) := by decide +kernel
theorem dX13_outs_37 : decode cX13_outs 37 = .ok (.istore 4, 2) := by decide +kernel
theorem dX13_outs_39 : decode cX13_outs 39 = .ok (.iload 4, 2) := by decide +kernel
theorem dX13_outs_41 : decode cX13_outs 41 = .ok (.iload_n 2, 1) := by decide +kernel
theorem dX13_outs_42 : decode cX13_outs 42 = .ok (.if_icmp .ge 27, 3) := by decide +kernel
theorem dX13_outs_45 : decode cX13_outs 45 = .ok (.iload_n 3, 1) := by decide +kernel
theorem dX13_outs_46 : decode cX13_outs 46 = .ok (.aload_n 0, 1) := by decide +kernel
theorem dX13_outs_47 : decode cX13_outs 47 = .ok (.iload_n 2, 1) := by decide +kernel
theorem dX13_outs_48 : decode cX13_outs 48 = .ok (.iload 4, 2) := by decide +kernel
theorem dX13_outs_50 : decode cX13_outs 50 = .ok (.invokevirtual 337, 3) := by decide +kernel
theorem dX13_outs_53 : decode cX13_outs 53 = .ok (.ifCond .eq 7, 3) := by decide +kernel
theorem dX13_outs_56 : decode cX13_outs 56 = .ok (.iconst 1, 1) := by decide +kernel
theorem dX13_outs_57 : decode cX13_outs 57 = .ok (.goto 4, 3) := by decide +kernel
theorem dX13_outs_60 : decode cX13_outs 60 = .ok (.iconst 0, 1) := by decide +kernel
theorem dX13_outs_61 : decode cX13_outs 61 = .ok (.iadd, 1) := by decide +kernel
theorem dX13_outs_62 : decode cX13_outs 62 = .ok (.istore_n 3, 1) := by decide +kernel
theorem dX13_outs_63 : decode cX13_outs 63 = .ok (.iinc 4 1, 3) := by decide +kernel
theorem dX13_outs_66 : decode cX13_outs 66 = .ok (.goto (-27), 3) := by decide +kernel
theorem dX13_outs_69 : decode cX13_outs 69 = .ok (.aload_n 0, 1) := by decide +kernel
theorem dX13_outs_70 : decode cX13_outs 70 = .ok (.iload_n 3, 1) := by decide +kernel
theorem dX13_outs_71 : decode cX13_outs 71 = .ok (.invokevirtual 59, 3) := by decide +kernel
theorem dX13_outs_74 : decode cX13_outs 74 = .ok (.ireturn, 1) := by decide +kernel
set_option maxRecDepth 20000 in
theorem ggX13_firstLine_X13_isStack : GoodIn wsX13_firstLine wsX13_isStack := goodIn_r _ [6, 7, 54, 55, 56, 57, 58, 59, 60, 61, 62, 63, 64, 65, 66, 67, 68, 69, 70, 71, 72, 73, 74, 75, 76, 77, 78, 79, 80, 81, 82, 83, 84, 85, 86, 87, 88, 89, 90, 91, 92, 93, 94, 95, 96, 97, 98, 99, 100, 101, 102, 103, 104, 105, 106, 107] (by decide +kernel) (by decide +kernel)
set_option maxRecDepth 20000 in
theorem gX13_firstLine_X13_isStack : GoodIn wsX13_firstLine (wsV RX13 307 RX13 yX13_isStack wsX13_isStack) := goodIn_app (goodIn_of _ (by decide +kernel)) ggX13_firstLine_X13_isStack
set_option maxRecDepth 20000 in
theorem ggX13_firstLine_X13_refused : GoodIn wsX13_firstLine wsX13_refused := goodIn_r _ [11, 12, 13, 54, 55, 56, 57, 58, 59, 60, 61, 62, 63, 64, 65, 66, 67, 68, 69, 70, 71, 72, 73, 74, 75, 76, 77, 78, 79, 80, 81, 82, 83, 84, 85, 86, 87, 88, 89, 90, 91] (by decide +kernel) (by decide +kernel)
set_option maxRecDepth 20000 in
theorem gX13_firstLine_X13_refused : GoodIn wsX13_firstLine (wsV RX13 55 RX13 yX13_refused wsX13_refused) := goodIn_app (goodIn_of _ (by decide +kernel)) ggX13_firstLine_X13_refused
set_option maxRecDepth 20000 in
theorem ggX13_firstLine_X13_row : GoodIn wsX13_firstLine wsX13_row := goodIn_r _ [17, 18, 54, 55, 56, 57, 58, 59, 60, 61, 62, 63, 64, 65, 66, 67, 68, 69, 70, 71, 72, 73, 74, 75, 76, 77, 78, 79, 80, 81, 82, 83, 84, 85, 86, 87, 88, 89, 90, 91] (by decide +kernel) (by decide +kernel)
set_option maxRecDepth 20000 in
theorem gX13_firstLine_X13_row : GoodIn wsX13_firstLine (wsV RX13 312 RX13 yX13_row wsX13_row) := goodIn_app (goodIn_of _ (by decide +kernel)) ggX13_firstLine_X13_row
set_option maxRecDepth 20000 in
theorem ggX13_firstLine_X13_steps : GoodIn wsX13_firstLine wsX13_steps := goodIn_r _ [22, 18, 54, 55, 56, 57, 58, 59, 60, 61, 62, 63, 64, 65, 66, 67, 68, 69, 70, 71, 72, 73, 74, 75, 76, 77, 78, 79, 80, 81, 82, 83, 84, 85, 86, 87, 88, 89, 90, 91] (by decide +kernel) (by decide +kernel)
set_option maxRecDepth 20000 in
theorem gX13_firstLine_X13_steps : GoodIn wsX13_firstLine (wsV RX13 310 RX13 yX13_steps wsX13_steps) := goodIn_app (goodIn_of _ (by decide +kernel)) ggX13_firstLine_X13_steps
set_option maxRecDepth 20000 in
theorem ggX13_firstLine_X13_lays : GoodIn wsX13_firstLine wsX13_lays := goodIn_r _ [26, 27, 28, 29, 5, 30, 31, 32, 33, 34, 35, 36, 37, 38, 39, 54, 55, 56, 57, 58, 59, 60, 61, 62, 63, 64, 65, 66, 67, 68, 69, 70, 71, 72, 73, 74, 75, 76, 77, 78, 79, 80, 81, 82, 83, 84, 85, 86, 87, 88, 89, 90, 91] (by decide +kernel) (by decide +kernel)
set_option maxRecDepth 20000 in
theorem gX13_firstLine_X13_lays : GoodIn wsX13_firstLine (wsV RX13 298 RX13 yX13_lays wsX13_lays) := goodIn_app (goodIn_of _ (by decide +kernel)) ggX13_firstLine_X13_lays
set_option maxRecDepth 20000 in
theorem ggX13_firstLine_X13_isOut : GoodIn wsX13_firstLine wsX13_isOut := goodIn_r _ [43, 44, 27, 45, 46, 47, 5, 48, 49, 54, 55, 56, 57, 58, 59, 60, 61, 62, 63, 64, 65, 66, 67, 68, 69, 70, 71, 72, 73, 74, 75, 76, 77, 78, 79, 80, 81, 82, 83, 84, 85, 86, 87, 88, 89, 90, 91] (by decide +kernel) (by decide +kernel)
set_option maxRecDepth 20000 in
theorem gX13_firstLine_X13_isOut : GoodIn wsX13_firstLine (wsV RX13 337 RX13 yX13_isOut wsX13_isOut) := goodIn_app (goodIn_of _ (by decide +kernel)) ggX13_firstLine_X13_isOut
set_option maxRecDepth 20000 in
theorem ggX13_firstLine_X13_good : GoodIn wsX13_firstLine wsX13_good := goodIn_r _ [53, 12, 13, 54, 55, 56, 57, 58, 59, 60, 61, 62, 63, 64, 65, 66, 67, 68, 69, 70, 71, 72, 73, 74, 75, 76, 77, 78, 79, 80, 81, 82, 83, 84, 85, 86, 87, 88, 89, 90, 91] (by decide +kernel) (by decide +kernel)
set_option maxRecDepth 20000 in
theorem gX13_firstLine_X13_good : GoodIn wsX13_firstLine (wsV RX13 59 RX13 yX13_good wsX13_good) := goodIn_app (goodIn_of _ (by decide +kernel)) ggX13_firstLine_X13_good
theorem dX13_firstLine_0 : decode cX13_firstLine 0 = .ok (.aload_n 0, 1) := by decide +kernel
theorem dX13_firstLine_1 : decode cX13_firstLine 1 = .ok (.iconst 0, 1) := by decide +kernel
theorem dX13_firstLine_2 : decode cX13_firstLine 2 = .ok (.putfield 49, 3) := by decide +kernel
theorem dX13_firstLine_5 : decode cX13_firstLine 5 = .ok (.aload_n 0, 1) := by decide +kernel
theorem dX13_firstLine_6 : decode cX13_firstLine 6 = .ok (.iload_n 1, 1) := by decide +kernel
theorem dX13_firstLine_7 : decode cX13_firstLine 7 = .ok (.invokevirtual 307, 3) := by decide +kernel
theorem dX13_firstLine_10 : decode cX13_firstLine 10 = .ok (.ifCond .ne 9, 3) := by decide +kernel
theorem dX13_firstLine_13 : decode cX13_firstLine 13 = .ok (.aload_n 0, 1) := by decide +kernel
theorem dX13_firstLine_14 : decode cX13_firstLine 14 = .ok (.iconst 1, 1) := by decide +kernel
theorem dX13_firstLine_15 : decode cX13_firstLine 15 = .ok (.invokevirtual 55, 3) := by decide +kernel
theorem dX13_firstLine_18 : decode cX13_firstLine 18 = .ok (.ireturn, 1) := by decide +kernel
theorem dX13_firstLine_19 : decode cX13_firstLine 19 = .ok (.aload_n 0, 1) := by decide +kernel
theorem dX13_firstLine_20 : decode cX13_firstLine 20 = .ok (.aload_n 0, 1) := by decide +kernel
theorem dX13_firstLine_21 : decode cX13_firstLine 21 = .ok (.iload_n 1, 1) := by decide +kernel
theorem dX13_firstLine_22 : decode cX13_firstLine 22 = .ok (.invokevirtual 312, 3) := by decide +kernel
theorem dX13_firstLine_25 : decode cX13_firstLine 25 = .ok (.aload_n 0, 1) := by decide +kernel
theorem dX13_firstLine_26 : decode cX13_firstLine 26 = .ok (.iload_n 1, 1) := by decide +kernel
theorem dX13_firstLine_27 : decode cX13_firstLine 27 = .ok (.invokevirtual 310, 3) := by decide +kernel
theorem dX13_firstLine_30 : decode cX13_firstLine 30 = .ok (.invokevirtual 298, 3) := by decide +kernel
theorem dX13_firstLine_33 : decode cX13_firstLine 33 = .ok (.istore_n 2, 1) := by decide +kernel
theorem dX13_firstLine_34 : decode cX13_firstLine 34 = .ok (.iconst 1, 1) := by decide +kernel
theorem dX13_firstLine_35 : decode cX13_firstLine 35 = .ok (.istore_n 3, 1) := by decide +kernel
theorem dX13_firstLine_36 : decode cX13_firstLine 36 = .ok (.iload_n 3, 1) := by decide +kernel
theorem dX13_firstLine_37 : decode cX13_firstLine 37 = .ok (.iload_n 2, 1) := by decide +kernel
theorem dX13_firstLine_38 : decode cX13_firstLine 38 = .ok (.if_icmp .ge 24, 3) := by decide +kernel
theorem dX13_firstLine_41 : decode cX13_firstLine 41 = .ok (.aload_n 0, 1) := by decide +kernel
theorem dX13_firstLine_42 : decode cX13_firstLine 42 = .ok (.iload_n 2, 1) := by decide +kernel
theorem dX13_firstLine_43 : decode cX13_firstLine 43 = .ok (.iload_n 3, 1) := by decide +kernel
theorem dX13_firstLine_44 : decode cX13_firstLine 44 = .ok (.invokevirtual 337, 3) := by decide +kernel
theorem dX13_firstLine_47 : decode cX13_firstLine 47 = .ok (.ifCond .ne 9, 3) := by decide +kernel
theorem dX13_firstLine_50 : decode cX13_firstLine 50 = .ok (.aload_n 0, 1) := by decide +kernel
theorem dX13_firstLine_51 : decode cX13_firstLine 51 = .ok (.iload_n 3, 1) := by decide +kernel
theorem dX13_firstLine_52 : decode cX13_firstLine 52 = .ok (.invokevirtual 59, 3) := by decide +kernel
theorem dX13_firstLine_55 : decode cX13_firstLine 55 = .ok (.ireturn, 1) := by decide +kernel
theorem dX13_firstLine_56 : decode cX13_firstLine 56 = .ok (.iinc 3 1, 3) := by decide +kernel
theorem dX13_firstLine_59 : decode cX13_firstLine 59 = .ok (.goto (-23), 3) := by decide +kernel
theorem dX13_firstLine_62 : decode cX13_firstLine 62 = .ok (.aload_n 0, 1) := by decide +kernel
theorem dX13_firstLine_63 : decode cX13_firstLine 63 = .ok (.bipush (-2), 2) := by decide +kernel
theorem dX13_firstLine_65 : decode cX13_firstLine 65 = .ok (.invokevirtual 59, 3) := by decide +kernel
theorem dX13_firstLine_68 : decode cX13_firstLine 68 = .ok (.ireturn, 1) := by decide +kernel
set_option maxRecDepth 20000 in
theorem ggX13_linesOf_X13_row : GoodIn wsX13_linesOf wsX13_row := goodIn_r _ [5, 6, 38, 39, 40, 41, 42, 43, 44, 45, 46, 47, 48, 49, 50, 51, 52, 53, 54, 55, 56, 57, 58, 59, 60, 61, 62, 63, 64, 65, 66, 67, 68, 69, 70, 71, 72, 73, 74, 75] (by decide +kernel) (by decide +kernel)
set_option maxRecDepth 20000 in
theorem gX13_linesOf_X13_row : GoodIn wsX13_linesOf (wsV RX13 312 RX13 yX13_row wsX13_row) := goodIn_app (goodIn_of _ (by decide +kernel)) ggX13_linesOf_X13_row
set_option maxRecDepth 20000 in
theorem ggX13_linesOf_X13_steps : GoodIn wsX13_linesOf wsX13_steps := goodIn_r _ [10, 6, 38, 39, 40, 41, 42, 43, 44, 45, 46, 47, 48, 49, 50, 51, 52, 53, 54, 55, 56, 57, 58, 59, 60, 61, 62, 63, 64, 65, 66, 67, 68, 69, 70, 71, 72, 73, 74, 75] (by decide +kernel) (by decide +kernel)
set_option maxRecDepth 20000 in
theorem gX13_linesOf_X13_steps : GoodIn wsX13_linesOf (wsV RX13 310 RX13 yX13_steps wsX13_steps) := goodIn_app (goodIn_of _ (by decide +kernel)) ggX13_linesOf_X13_steps
set_option maxRecDepth 20000 in
theorem ggX13_linesOf_X13_lays : GoodIn wsX13_linesOf wsX13_lays := goodIn_r _ [14, 15, 16, 17, 4, 18, 19, 20, 21, 22, 23, 24, 25, 26, 27, 38, 39, 40, 41, 42, 43, 44, 45, 46, 47, 48, 49, 50, 51, 52, 53, 54, 55, 56, 57, 58, 59, 60, 61, 62, 63, 64, 65, 66, 67, 68, 69, 70, 71, 72, 73, 74, 75] (by decide +kernel) (by decide +kernel)
set_option maxRecDepth 20000 in
theorem gX13_linesOf_X13_lays : GoodIn wsX13_linesOf (wsV RX13 298 RX13 yX13_lays wsX13_lays) := goodIn_app (goodIn_of _ (by decide +kernel)) ggX13_linesOf_X13_lays
set_option maxRecDepth 20000 in
theorem ggX13_linesOf_X13_isOut : GoodIn wsX13_linesOf wsX13_isOut := goodIn_r _ [31, 32, 15, 33, 34, 35, 4, 36, 37, 38, 39, 40, 41, 42, 43, 44, 45, 46, 47, 48, 49, 50, 51, 52, 53, 54, 55, 56, 57, 58, 59, 60, 61, 62, 63, 64, 65, 66, 67, 68, 69, 70, 71, 72, 73, 74, 75] (by decide +kernel) (by decide +kernel)
set_option maxRecDepth 20000 in
theorem gX13_linesOf_X13_isOut : GoodIn wsX13_linesOf (wsV RX13 337 RX13 yX13_isOut wsX13_isOut) := goodIn_app (goodIn_of _ (by decide +kernel)) ggX13_linesOf_X13_isOut
theorem dX13_linesOf_0 : decode cX13_linesOf 0 = .ok (.aload_n 0, 1) := by decide +kernel
theorem dX13_linesOf_1 : decode cX13_linesOf 1 = .ok (.aload_n 0, 1) := by decide +kernel
theorem dX13_linesOf_2 : decode cX13_linesOf 2 = .ok (.iload_n 1, 1) := by decide +kernel
theorem dX13_linesOf_3 : decode cX13_linesOf 3 = .ok (.invokevirtual 312, 3) := by decide +kernel
theorem dX13_linesOf_6 : decode cX13_linesOf 6 = .ok (.aload_n 0, 1) := by decide +kernel
theorem dX13_linesOf_7 : decode cX13_linesOf 7 = .ok (.iload_n 1, 1) := by decide +kernel
theorem dX13_linesOf_8 : decode cX13_linesOf 8 = .ok (.invokevirtual 310, 3) := by decide +kernel
theorem dX13_linesOf_11 : decode cX13_linesOf 11 = .ok (.invokevirtual 298, 3) := by decide +kernel
theorem dX13_linesOf_14 : decode cX13_linesOf 14 = .ok (.istore_n 2, 1) := by decide +kernel
theorem dX13_linesOf_15 : decode cX13_linesOf 15 = .ok (.lconst 0, 1) := by decide +kernel
theorem dX13_linesOf_16 : decode cX13_linesOf 16 = .ok (.lstore_n 3, 1) := by decide +kernel
theorem dX13_linesOf_17 : decode cX13_linesOf 17 = .ok (.iconst 0, 1) := by decide +kernel
theorem dX13_linesOf_18 : decode cX13_linesOf 18 = .ok (.istore 5, 2) := by decide +kernel
theorem dX13_linesOf_20 : decode cX13_linesOf 20 = .ok (.iload 5, 2) := by decide +kernel
theorem dX13_linesOf_22 : decode cX13_linesOf 22 = .ok (.iload_n 2, 1) := by decide +kernel
theorem dX13_linesOf_23 : decode cX13_linesOf 23 = .ok (.if_icmp .ge 26, 3) := by decide +kernel
theorem dX13_linesOf_26 : decode cX13_linesOf 26 = .ok (.aload_n 0, 1) := by decide +kernel
theorem dX13_linesOf_27 : decode cX13_linesOf 27 = .ok (.iload_n 2, 1) := by decide +kernel
theorem dX13_linesOf_28 : decode cX13_linesOf 28 = .ok (.iload 5, 2) := by decide +kernel
theorem dX13_linesOf_30 : decode cX13_linesOf 30 = .ok (.invokevirtual 337, 3) := by decide +kernel
theorem dX13_linesOf_33 : decode cX13_linesOf 33 = .ok (.ifCond .eq 10, 3) := by decide +kernel
theorem dX13_linesOf_36 : decode cX13_linesOf 36 = .ok (.lload_n 3, 1) := by decide +kernel
theorem dX13_linesOf_37 : decode cX13_linesOf 37 = .ok (.lconst 1, 1) := by decide +kernel
theorem dX13_linesOf_38 : decode cX13_linesOf 38 = .ok (.iload 5, 2) := by decide +kernel
theorem dX13_linesOf_40 : decode cX13_linesOf 40 = .ok (.lshl, 1) := by decide +kernel
theorem dX13_linesOf_41 : decode cX13_linesOf 41 = .ok (.lor, 1) := by decide +kernel
theorem dX13_linesOf_42 : decode cX13_linesOf 42 = .ok (.lstore_n 3, 1) := by decide +kernel
theorem dX13_linesOf_43 : decode cX13_linesOf 43 = .ok (.iinc 5 1, 3) := by decide +kernel
theorem dX13_linesOf_46 : decode cX13_linesOf 46 = .ok (.goto (-26), 3) := by decide +kernel
theorem dX13_linesOf_49 : decode cX13_linesOf 49 = .ok (.lload_n 3, 1) := by decide +kernel
theorem dX13_linesOf_50 : decode cX13_linesOf 50 = .ok (.lreturn, 1) := by decide +kernel
set_option maxRecDepth 20000 in
theorem ggX13_sameLines_X13_isStack : GoodIn wsX13_sameLines wsX13_isStack := goodIn_r _ [6, 7, 58, 59, 60, 61, 62, 63, 64, 65, 66, 67, 68, 69, 70, 71, 72, 73, 74, 75, 76, 77, 78, 79, 80, 81, 82, 83, 84, 85, 86, 87, 88, 89, 90, 91, 92, 93, 94, 95, 96, 97, 98, 99, 100, 101, 102, 103, 104, 105, 106, 107, 108, 109, 110, 111] (by decide +kernel) (by decide +kernel)
set_option maxRecDepth 20000 in
theorem gX13_sameLines_X13_isStack : GoodIn wsX13_sameLines (wsV RX13 307 RX13 yX13_isStack wsX13_isStack) := goodIn_app (goodIn_of _ (by decide +kernel)) ggX13_sameLines_X13_isStack
set_option maxRecDepth 20000 in
theorem ggX13_sameLines_X13_refused : GoodIn wsX13_sameLines wsX13_refused := goodIn_r _ [11, 12, 13, 58, 59, 60, 61, 62, 63, 64, 65, 66, 67, 68, 69, 70, 71, 72, 73, 74, 75, 76, 77, 78, 79, 80, 81, 82, 83, 84, 85, 86, 87, 88, 89, 90, 91, 92, 93, 94, 95] (by decide +kernel) (by decide +kernel)
set_option maxRecDepth 20000 in
theorem gX13_sameLines_X13_refused : GoodIn wsX13_sameLines (wsV RX13 55 RX13 yX13_refused wsX13_refused) := goodIn_app (goodIn_of _ (by decide +kernel)) ggX13_sameLines_X13_refused
set_option maxRecDepth 20000 in
theorem ggX13_sameLines_X13_row : GoodIn wsX13_sameLines wsX13_row := goodIn_r _ [17, 18, 58, 59, 60, 61, 62, 63, 64, 65, 66, 67, 68, 69, 70, 71, 72, 73, 74, 75, 76, 77, 78, 79, 80, 81, 82, 83, 84, 85, 86, 87, 88, 89, 90, 91, 92, 93, 94, 95] (by decide +kernel) (by decide +kernel)
set_option maxRecDepth 20000 in
theorem gX13_sameLines_X13_row : GoodIn wsX13_sameLines (wsV RX13 312 RX13 yX13_row wsX13_row) := goodIn_app (goodIn_of _ (by decide +kernel)) ggX13_sameLines_X13_row
set_option maxRecDepth 20000 in
theorem ggX13_sameLines_X13_steps : GoodIn wsX13_sameLines wsX13_steps := goodIn_r _ [22, 18, 58, 59, 60, 61, 62, 63, 64, 65, 66, 67, 68, 69, 70, 71, 72, 73, 74, 75, 76, 77, 78, 79, 80, 81, 82, 83, 84, 85, 86, 87, 88, 89, 90, 91, 92, 93, 94, 95] (by decide +kernel) (by decide +kernel)
set_option maxRecDepth 20000 in
theorem gX13_sameLines_X13_steps : GoodIn wsX13_sameLines (wsV RX13 310 RX13 yX13_steps wsX13_steps) := goodIn_app (goodIn_of _ (by decide +kernel)) ggX13_sameLines_X13_steps
set_option maxRecDepth 20000 in
theorem ggX13_sameLines_X13_repeats : GoodIn wsX13_sameLines wsX13_repeats := goodIn_r _ [25, 26, 27, 5, 28, 29, 30, 31] (by decide +kernel) (by decide +kernel)
set_option maxRecDepth 20000 in
theorem gX13_sameLines_X13_repeats : GoodIn wsX13_sameLines (va_wsS RX13 295 yX13_repeats wsX13_repeats) := goodIn_app (goodIn_of _ (by decide +kernel)) ggX13_sameLines_X13_repeats
set_option maxRecDepth 20000 in
theorem ggX13_sameLines_X13_linesOf : GoodIn wsX13_sameLines wsX13_linesOf := goodIn_r _ [35, 14, 15, 16, 5, 17, 18, 19, 20, 21, 22, 36, 37, 38, 39, 40, 23, 24, 25, 26, 27, 28, 29, 30, 31, 41, 42, 43, 44, 45, 46, 47, 48, 49, 50, 51, 52, 53, 58, 59, 60, 61, 62, 63, 64, 65, 66, 67, 68, 69, 70, 71, 72, 73, 74, 75, 76, 77, 78, 79, 80, 81, 82, 83, 84, 85, 86, 87, 88, 89, 90, 91, 92, 93, 94, 95] (by decide +kernel) (by decide +kernel)
set_option maxRecDepth 20000 in
theorem gX13_sameLines_X13_linesOf : GoodIn wsX13_sameLines (wsV RX13 340 RX13 yX13_linesOf wsX13_linesOf) := goodIn_app (goodIn_of _ (by decide +kernel)) ggX13_sameLines_X13_linesOf
set_option maxRecDepth 20000 in
theorem ggX13_sameLines_X13_good : GoodIn wsX13_sameLines wsX13_good := goodIn_r _ [57, 12, 13, 58, 59, 60, 61, 62, 63, 64, 65, 66, 67, 68, 69, 70, 71, 72, 73, 74, 75, 76, 77, 78, 79, 80, 81, 82, 83, 84, 85, 86, 87, 88, 89, 90, 91, 92, 93, 94, 95] (by decide +kernel) (by decide +kernel)
set_option maxRecDepth 20000 in
theorem gX13_sameLines_X13_good : GoodIn wsX13_sameLines (wsV RX13 59 RX13 yX13_good wsX13_good) := goodIn_app (goodIn_of _ (by decide +kernel)) ggX13_sameLines_X13_good
theorem dX13_sameLines_0 : decode cX13_sameLines 0 = .ok (.aload_n 0, 1) := by decide +kernel
theorem dX13_sameLines_1 : decode cX13_sameLines 1 = .ok (.iconst 0, 1) := by decide +kernel
theorem dX13_sameLines_2 : decode cX13_sameLines 2 = .ok (.putfield 49, 3) := by decide +kernel
theorem dX13_sameLines_5 : decode cX13_sameLines 5 = .ok (.aload_n 0, 1) := by decide +kernel
theorem dX13_sameLines_6 : decode cX13_sameLines 6 = .ok (.iload_n 1, 1) := by decide +kernel
theorem dX13_sameLines_7 : decode cX13_sameLines 7 = .ok (.invokevirtual 307, 3) := by decide +kernel
theorem dX13_sameLines_10 : decode cX13_sameLines 10 = .ok (.ifCond .eq 11, 3) := by decide +kernel
theorem dX13_sameLines_13 : decode cX13_sameLines 13 = .ok (.aload_n 0, 1) := by decide +kernel
theorem dX13_sameLines_14 : decode cX13_sameLines 14 = .ok (.iload_n 2, 1) := by decide +kernel
theorem dX13_sameLines_15 : decode cX13_sameLines 15 = .ok (.invokevirtual 307, 3) := by decide +kernel
theorem dX13_sameLines_18 : decode cX13_sameLines 18 = .ok (.ifCond .ne 9, 3) := by decide +kernel
theorem dX13_sameLines_21 : decode cX13_sameLines 21 = .ok (.aload_n 0, 1) := by decide +kernel
theorem dX13_sameLines_22 : decode cX13_sameLines 22 = .ok (.iconst 1, 1) := by decide +kernel
theorem dX13_sameLines_23 : decode cX13_sameLines 23 = .ok (.invokevirtual 55, 3) := by decide +kernel
theorem dX13_sameLines_26 : decode cX13_sameLines 26 = .ok (.ireturn, 1) := by decide +kernel
theorem dX13_sameLines_27 : decode cX13_sameLines 27 = .ok (.aload_n 0, 1) := by decide +kernel
theorem dX13_sameLines_28 : decode cX13_sameLines 28 = .ok (.iload_n 1, 1) := by decide +kernel
theorem dX13_sameLines_29 : decode cX13_sameLines 29 = .ok (.invokevirtual 312, 3) := by decide +kernel
theorem dX13_sameLines_32 : decode cX13_sameLines 32 = .ok (.aload_n 0, 1) := by decide +kernel
theorem dX13_sameLines_33 : decode cX13_sameLines 33 = .ok (.iload_n 1, 1) := by decide +kernel
theorem dX13_sameLines_34 : decode cX13_sameLines 34 = .ok (.invokevirtual 310, 3) := by decide +kernel
theorem dX13_sameLines_37 : decode cX13_sameLines 37 = .ok (.invokestatic 295, 3) := by decide +kernel
theorem dX13_sameLines_40 : decode cX13_sameLines 40 = .ok (.aload_n 0, 1) := by decide +kernel
theorem dX13_sameLines_41 : decode cX13_sameLines 41 = .ok (.iload_n 2, 1) := by decide +kernel
theorem dX13_sameLines_42 : decode cX13_sameLines 42 = .ok (.invokevirtual 312, 3) := by decide +kernel
theorem dX13_sameLines_45 : decode cX13_sameLines 45 = .ok (.aload_n 0, 1) := by decide +kernel
theorem dX13_sameLines_46 : decode cX13_sameLines 46 = .ok (.iload_n 2, 1) := by decide +kernel
theorem dX13_sameLines_47 : decode cX13_sameLines 47 = .ok (.invokevirtual 310, 3) := by decide +kernel
theorem dX13_sameLines_50 : decode cX13_sameLines 50 = .ok (.invokestatic 295, 3) := by decide +kernel
theorem dX13_sameLines_53 : decode cX13_sameLines 53 = .ok (.if_icmp .eq 9, 3) := by decide +kernel
theorem dX13_sameLines_56 : decode cX13_sameLines 56 = .ok (.aload_n 0, 1) := by decide +kernel
theorem dX13_sameLines_57 : decode cX13_sameLines 57 = .ok (.iconst 5, 1) := by decide +kernel
theorem dX13_sameLines_58 : decode cX13_sameLines 58 = .ok (.invokevirtual 55, 3) := by decide +kernel
theorem dX13_sameLines_61 : decode cX13_sameLines 61 = .ok (.ireturn, 1) := by decide +kernel
theorem dX13_sameLines_62 : decode cX13_sameLines 62 = .ok (.aload_n 0, 1) := by decide +kernel
theorem dX13_sameLines_63 : decode cX13_sameLines 63 = .ok (.aload_n 0, 1) := by decide +kernel
theorem dX13_sameLines_64 : decode cX13_sameLines 64 = .ok (.iload_n 1, 1) := by decide +kernel
theorem dX13_sameLines_65 : decode cX13_sameLines 65 = .ok (.invokevirtual 340, 3) := by decide +kernel
theorem dX13_sameLines_68 : decode cX13_sameLines 68 = .ok (.aload_n 0, 1) := by decide +kernel
theorem dX13_sameLines_69 : decode cX13_sameLines 69 = .ok (.iload_n 2, 1) := by decide +kernel
theorem dX13_sameLines_70 : decode cX13_sameLines 70 = .ok (.invokevirtual 340, 3) := by decide +kernel
theorem dX13_sameLines_73 : decode cX13_sameLines 73 = .ok (.lcmp, 1) := by decide +kernel
theorem dX13_sameLines_74 : decode cX13_sameLines 74 = .ok (.ifCond .ne 7, 3) := by decide +kernel
theorem dX13_sameLines_77 : decode cX13_sameLines 77 = .ok (.iconst 1, 1) := by decide +kernel
theorem dX13_sameLines_78 : decode cX13_sameLines 78 = .ok (.goto 4, 3) := by decide +kernel
theorem dX13_sameLines_81 : decode cX13_sameLines 81 = .ok (.iconst 0, 1) := by decide +kernel
theorem dX13_sameLines_82 : decode cX13_sameLines 82 = .ok (.invokevirtual 59, 3) := by decide +kernel
theorem dX13_sameLines_85 : decode cX13_sameLines 85 = .ok (.ireturn, 1) := by decide +kernel
set_option maxRecDepth 20000 in
theorem ggX13_differs_X13_isStack : GoodIn wsX13_differs wsX13_isStack := goodIn_r _ [6, 7, 48, 49, 50, 51, 52, 53, 54, 55, 56, 57, 58, 59, 60, 61, 62, 63, 64, 65, 66, 67, 68, 69, 70, 71, 72, 73, 74, 75, 76, 77, 78, 79, 80, 81, 82, 83, 84, 85, 86, 87, 88, 89, 90, 91, 92, 93, 94, 95, 96, 97, 98, 99, 100, 101] (by decide +kernel) (by decide +kernel)
set_option maxRecDepth 20000 in
theorem gX13_differs_X13_isStack : GoodIn wsX13_differs (wsV RX13 307 RX13 yX13_isStack wsX13_isStack) := goodIn_app (goodIn_of _ (by decide +kernel)) ggX13_differs_X13_isStack
set_option maxRecDepth 20000 in
theorem ggX13_differs_X13_refused : GoodIn wsX13_differs wsX13_refused := goodIn_r _ [11, 12, 13, 48, 49, 50, 51, 52, 53, 54, 55, 56, 57, 58, 59, 60, 61, 62, 63, 64, 65, 66, 67, 68, 69, 70, 71, 72, 73, 74, 75, 76, 77, 78, 79, 80, 81, 82, 83, 84, 85] (by decide +kernel) (by decide +kernel)
set_option maxRecDepth 20000 in
theorem gX13_differs_X13_refused : GoodIn wsX13_differs (wsV RX13 55 RX13 yX13_refused wsX13_refused) := goodIn_app (goodIn_of _ (by decide +kernel)) ggX13_differs_X13_refused
set_option maxRecDepth 20000 in
theorem ggX13_differs_X13_row : GoodIn wsX13_differs wsX13_row := goodIn_r _ [17, 18, 48, 49, 50, 51, 52, 53, 54, 55, 56, 57, 58, 59, 60, 61, 62, 63, 64, 65, 66, 67, 68, 69, 70, 71, 72, 73, 74, 75, 76, 77, 78, 79, 80, 81, 82, 83, 84, 85] (by decide +kernel) (by decide +kernel)
set_option maxRecDepth 20000 in
theorem gX13_differs_X13_row : GoodIn wsX13_differs (wsV RX13 312 RX13 yX13_row wsX13_row) := goodIn_app (goodIn_of _ (by decide +kernel)) ggX13_differs_X13_row
set_option maxRecDepth 20000 in
theorem ggX13_differs_X13_steps : GoodIn wsX13_differs wsX13_steps := goodIn_r _ [22, 18, 48, 49, 50, 51, 52, 53, 54, 55, 56, 57, 58, 59, 60, 61, 62, 63, 64, 65, 66, 67, 68, 69, 70, 71, 72, 73, 74, 75, 76, 77, 78, 79, 80, 81, 82, 83, 84, 85] (by decide +kernel) (by decide +kernel)
set_option maxRecDepth 20000 in
theorem gX13_differs_X13_steps : GoodIn wsX13_differs (wsV RX13 310 RX13 yX13_steps wsX13_steps) := goodIn_app (goodIn_of _ (by decide +kernel)) ggX13_differs_X13_steps
set_option maxRecDepth 20000 in
theorem ggX13_differs_X13_repeats : GoodIn wsX13_differs wsX13_repeats := goodIn_r _ [25, 26, 27, 5, 28, 29, 30, 31] (by decide +kernel) (by decide +kernel)
set_option maxRecDepth 20000 in
theorem gX13_differs_X13_repeats : GoodIn wsX13_differs (va_wsS RX13 295 yX13_repeats wsX13_repeats) := goodIn_app (goodIn_of _ (by decide +kernel)) ggX13_differs_X13_repeats
set_option maxRecDepth 20000 in
theorem ggX13_differs_X13_agreeOf : GoodIn wsX13_differs wsX13_agreeOf := goodIn_r _ [35, 36, 37, 38, 39, 5, 40, 23, 24, 25, 26, 27, 28, 29, 30, 31, 41, 42, 43, 48, 49, 50, 51, 52, 53, 54, 55, 56, 57, 58, 59, 60, 61, 62, 63, 64, 65, 66, 67, 68, 69, 70, 71, 72, 73, 74, 75, 76, 77, 78, 79, 80, 81, 82, 83, 84, 85] (by decide +kernel) (by decide +kernel)
set_option maxRecDepth 20000 in
theorem gX13_differs_X13_agreeOf : GoodIn wsX13_differs (wsV RX13 323 RX13 yX13_agreeOf wsX13_agreeOf) := goodIn_app (goodIn_of _ (by decide +kernel)) ggX13_differs_X13_agreeOf
set_option maxRecDepth 20000 in
theorem ggX13_differs_X13_good : GoodIn wsX13_differs wsX13_good := goodIn_r _ [47, 12, 13, 48, 49, 50, 51, 52, 53, 54, 55, 56, 57, 58, 59, 60, 61, 62, 63, 64, 65, 66, 67, 68, 69, 70, 71, 72, 73, 74, 75, 76, 77, 78, 79, 80, 81, 82, 83, 84, 85] (by decide +kernel) (by decide +kernel)
set_option maxRecDepth 20000 in
theorem gX13_differs_X13_good : GoodIn wsX13_differs (wsV RX13 59 RX13 yX13_good wsX13_good) := goodIn_app (goodIn_of _ (by decide +kernel)) ggX13_differs_X13_good
theorem dX13_differs_0 : decode cX13_differs 0 = .ok (.aload_n 0, 1) := by decide +kernel
theorem dX13_differs_1 : decode cX13_differs 1 = .ok (.iconst 0, 1) := by decide +kernel
theorem dX13_differs_2 : decode cX13_differs 2 = .ok (.putfield 49, 3) := by decide +kernel
theorem dX13_differs_5 : decode cX13_differs 5 = .ok (.aload_n 0, 1) := by decide +kernel
theorem dX13_differs_6 : decode cX13_differs 6 = .ok (.iload_n 1, 1) := by decide +kernel
theorem dX13_differs_7 : decode cX13_differs 7 = .ok (.invokevirtual 307, 3) := by decide +kernel
theorem dX13_differs_10 : decode cX13_differs 10 = .ok (.ifCond .eq 11, 3) := by decide +kernel
theorem dX13_differs_13 : decode cX13_differs 13 = .ok (.aload_n 0, 1) := by decide +kernel
theorem dX13_differs_14 : decode cX13_differs 14 = .ok (.iload_n 2, 1) := by decide +kernel
theorem dX13_differs_15 : decode cX13_differs 15 = .ok (.invokevirtual 307, 3) := by decide +kernel
theorem dX13_differs_18 : decode cX13_differs 18 = .ok (.ifCond .ne 9, 3) := by decide +kernel
theorem dX13_differs_21 : decode cX13_differs 21 = .ok (.aload_n 0, 1) := by decide +kernel
theorem dX13_differs_22 : decode cX13_differs 22 = .ok (.iconst 1, 1) := by decide +kernel
theorem dX13_differs_23 : decode cX13_differs 23 = .ok (.invokevirtual 55, 3) := by decide +kernel
theorem dX13_differs_26 : decode cX13_differs 26 = .ok (.ireturn, 1) := by decide +kernel
theorem dX13_differs_27 : decode cX13_differs 27 = .ok (.aload_n 0, 1) := by decide +kernel
theorem dX13_differs_28 : decode cX13_differs 28 = .ok (.iload_n 1, 1) := by decide +kernel
theorem dX13_differs_29 : decode cX13_differs 29 = .ok (.invokevirtual 312, 3) := by decide +kernel
theorem dX13_differs_32 : decode cX13_differs 32 = .ok (.aload_n 0, 1) := by decide +kernel
theorem dX13_differs_33 : decode cX13_differs 33 = .ok (.iload_n 1, 1) := by decide +kernel
theorem dX13_differs_34 : decode cX13_differs 34 = .ok (.invokevirtual 310, 3) := by decide +kernel
theorem dX13_differs_37 : decode cX13_differs 37 = .ok (.invokestatic 295, 3) := by decide +kernel
theorem dX13_differs_40 : decode cX13_differs 40 = .ok (.istore_n 3, 1) := by decide +kernel
theorem dX13_differs_41 : decode cX13_differs 41 = .ok (.aload_n 0, 1) := by decide +kernel
theorem dX13_differs_42 : decode cX13_differs 42 = .ok (.iload_n 2, 1) := by decide +kernel
theorem dX13_differs_43 : decode cX13_differs 43 = .ok (.invokevirtual 312, 3) := by decide +kernel
theorem dX13_differs_46 : decode cX13_differs 46 = .ok (.aload_n 0, 1) := by decide +kernel
theorem dX13_differs_47 : decode cX13_differs 47 = .ok (.iload_n 2, 1) := by decide +kernel
theorem dX13_differs_48 : decode cX13_differs 48 = .ok (.invokevirtual 310, 3) := by decide +kernel
theorem dX13_differs_51 : decode cX13_differs 51 = .ok (.invokestatic 295, 3) := by decide +kernel
theorem dX13_differs_54 : decode cX13_differs 54 = .ok (.istore 4, 2) := by decide +kernel
theorem dX13_differs_56 : decode cX13_differs 56 = .ok (.iconst 1, 1) := by decide +kernel
theorem dX13_differs_57 : decode cX13_differs 57 = .ok (.istore 5, 2) := by decide +kernel
theorem dX13_differs_59 : decode cX13_differs 59 = .ok (.iload 5, 2) := by decide +kernel
theorem dX13_differs_61 : decode cX13_differs 61 = .ok (.bipush 36, 2) := by decide +kernel
theorem dX13_differs_63 : decode cX13_differs 63 = .ok (.if_icmp .gt 56, 3) := by decide +kernel
theorem dX13_differs_66 : decode cX13_differs 66 = .ok (.aload_n 0, 1) := by decide +kernel
theorem dX13_differs_67 : decode cX13_differs 67 = .ok (.aload_n 0, 1) := by decide +kernel
theorem dX13_differs_68 : decode cX13_differs 68 = .ok (.iload_n 1, 1) := by decide +kernel
theorem dX13_differs_69 : decode cX13_differs 69 = .ok (.invokevirtual 312, 3) := by decide +kernel
theorem dX13_differs_72 : decode cX13_differs 72 = .ok (.aload_n 0, 1) := by decide +kernel
theorem dX13_differs_73 : decode cX13_differs 73 = .ok (.iload_n 1, 1) := by decide +kernel
theorem dX13_differs_74 : decode cX13_differs 74 = .ok (.invokevirtual 310, 3) := by decide +kernel
theorem dX13_differs_77 : decode cX13_differs 77 = .ok (.iload 5, 2) := by decide +kernel
theorem dX13_differs_79 : decode cX13_differs 79 = .ok (.invokevirtual 323, 3) := by decide +kernel
theorem dX13_differs_82 : decode cX13_differs 82 = .ok (.iload 4, 2) := by decide +kernel
theorem dX13_differs_84 : decode cX13_differs 84 = .ok (.imul, 1) := by decide +kernel
theorem dX13_differs_85 : decode cX13_differs 85 = .ok (.aload_n 0, 1) := by decide +kernel
theorem dX13_differs_86 : decode cX13_differs 86 = .ok (.aload_n 0, 1) := by decide +kernel
theorem dX13_differs_87 : decode cX13_differs 87 = .ok (.iload_n 2, 1) := by decide +kernel
theorem dX13_differs_88 : decode cX13_differs 88 = .ok (.invokevirtual 312, 3) := by decide +kernel
theorem dX13_differs_91 : decode cX13_differs 91 = .ok (.aload_n 0, 1) := by decide +kernel
theorem dX13_differs_92 : decode cX13_differs 92 = .ok (.iload_n 2, 1) := by decide +kernel
theorem dX13_differs_93 : decode cX13_differs 93 = .ok (.invokevirtual 310, 3) := by decide +kernel
theorem dX13_differs_96 : decode cX13_differs 96 = .ok (.iload 5, 2) := by decide +kernel
theorem dX13_differs_98 : decode cX13_differs 98 = .ok (.invokevirtual 323, 3) := by decide +kernel
theorem dX13_differs_101 : decode cX13_differs 101 = .ok (.iload_n 3, 1) := by decide +kernel
theorem dX13_differs_102 : decode cX13_differs 102 = .ok (.imul, 1) := by decide +kernel
theorem dX13_differs_103 : decode cX13_differs 103 = .ok (.if_icmp .eq 10, 3) := by decide +kernel
theorem dX13_differs_106 : decode cX13_differs 106 = .ok (.aload_n 0, 1) := by decide +kernel
theorem dX13_differs_107 : decode cX13_differs 107 = .ok (.iload 5, 2) := by decide +kernel
theorem dX13_differs_109 : decode cX13_differs 109 = .ok (.invokevirtual 59, 3) := by decide +kernel
theorem dX13_differs_112 : decode cX13_differs 112 = .ok (.ireturn, 1) := by decide +kernel
theorem dX13_differs_113 : decode cX13_differs 113 = .ok (.iinc 5 1, 3) := by decide +kernel
theorem dX13_differs_116 : decode cX13_differs 116 = .ok (.goto (-57), 3) := by decide +kernel
theorem dX13_differs_119 : decode cX13_differs 119 = .ok (.aload_n 0, 1) := by decide +kernel
theorem dX13_differs_120 : decode cX13_differs 120 = .ok (.bipush (-2), 2) := by decide +kernel
theorem dX13_differs_122 : decode cX13_differs 122 = .ok (.invokevirtual 59, 3) := by decide +kernel
theorem dX13_differs_125 : decode cX13_differs 125 = .ok (.ireturn, 1) := by decide +kernel
set_option maxRecDepth 20000 in
theorem ggX13_leastOf_X13_all : GoodIn wsX13_leastOf wsX13_all := goodIn_r _ [7] (by decide +kernel) (by decide +kernel)
set_option maxRecDepth 20000 in
theorem gX13_leastOf_X13_all : GoodIn wsX13_leastOf (va_wsS RX13 285 yX13_all wsX13_all) := goodIn_app (goodIn_of _ (by decide +kernel)) ggX13_leastOf_X13_all
set_option maxRecDepth 20000 in
theorem ggX13_leastOf_X13_energyOf : GoodIn wsX13_leastOf wsX13_energyOf := goodIn_r _ [11, 12, 13, 14, 6, 15, 16, 17, 18, 19, 20, 21, 22, 23, 24, 25, 26, 27, 28, 29, 30, 31, 32, 33, 34, 35, 36, 37, 38, 39, 40, 41, 42, 43, 44, 45, 46, 47, 48, 49, 50, 51, 52, 53, 54, 55, 56, 57, 58, 59, 60, 61, 62, 63, 64, 65, 66, 67, 68, 69] (by decide +kernel) (by decide +kernel)
set_option maxRecDepth 20000 in
theorem gX13_leastOf_X13_energyOf : GoodIn wsX13_leastOf (wsV RX13 330 RX13 yX13_energyOf wsX13_energyOf) := goodIn_app (goodIn_of _ (by decide +kernel)) ggX13_leastOf_X13_energyOf
theorem dX13_leastOf_0 : decode cX13_leastOf 0 = .ok (.ldc_w 344, 3) := by decide +kernel
theorem dX13_leastOf_3 : decode cX13_leastOf 3 = .ok (.istore_n 2, 1) := by decide +kernel
theorem dX13_leastOf_4 : decode cX13_leastOf 4 = .ok (.aload_n 0, 1) := by decide +kernel
theorem dX13_leastOf_5 : decode cX13_leastOf 5 = .ok (.iconst 0, 1) := by decide +kernel
theorem dX13_leastOf_6 : decode cX13_leastOf 6 = .ok (.putfield 345, 3) := by decide +kernel
theorem dX13_leastOf_9 : decode cX13_leastOf 9 = .ok (.iconst 0, 1) := by decide +kernel
theorem dX13_leastOf_10 : decode cX13_leastOf 10 = .ok (.istore_n 3, 1) := by decide +kernel
theorem dX13_leastOf_11 : decode cX13_leastOf 11 = .ok (.iload_n 3, 1) := by decide +kernel
theorem dX13_leastOf_12 : decode cX13_leastOf 12 = .ok (.iload_n 1, 1) := by decide +kernel
theorem dX13_leastOf_13 : decode cX13_leastOf 13 = .ok (.invokestatic 285, 3) := by decide +kernel
theorem dX13_leastOf_16 : decode cX13_leastOf 16 = .ok (.if_icmp .gt 56, 3) := by decide +kernel
theorem dX13_leastOf_19 : decode cX13_leastOf 19 = .ok (.aload_n 0, 1) := by decide +kernel
theorem dX13_leastOf_20 : decode cX13_leastOf 20 = .ok (.iload_n 3, 1) := by decide +kernel
theorem dX13_leastOf_21 : decode cX13_leastOf 21 = .ok (.iload_n 1, 1) := by decide +kernel
theorem dX13_leastOf_22 : decode cX13_leastOf 22 = .ok (.invokevirtual 330, 3) := by decide +kernel
theorem dX13_leastOf_25 : decode cX13_leastOf 25 = .ok (.istore 4, 2) := by decide +kernel
theorem dX13_leastOf_27 : decode cX13_leastOf 27 = .ok (.iload 4, 2) := by decide +kernel
theorem dX13_leastOf_29 : decode cX13_leastOf 29 = .ok (.iload_n 2, 1) := by decide +kernel
theorem dX13_leastOf_30 : decode cX13_leastOf 30 = .ok (.if_icmp .ge 16, 3) := by decide +kernel
theorem dX13_leastOf_33 : decode cX13_leastOf 33 = .ok (.iload 4, 2) := by decide +kernel
theorem dX13_leastOf_35 : decode cX13_leastOf 35 = .ok (.istore_n 2, 1) := by decide +kernel
theorem dX13_leastOf_36 : decode cX13_leastOf 36 = .ok (.aload_n 0, 1) := by decide +kernel
theorem dX13_leastOf_37 : decode cX13_leastOf 37 = .ok (.iload_n 3, 1) := by decide +kernel
theorem dX13_leastOf_38 : decode cX13_leastOf 38 = .ok (.putfield 348, 3) := by decide +kernel
theorem dX13_leastOf_41 : decode cX13_leastOf 41 = .ok (.aload_n 0, 1) := by decide +kernel
theorem dX13_leastOf_42 : decode cX13_leastOf 42 = .ok (.iconst 0, 1) := by decide +kernel
theorem dX13_leastOf_43 : decode cX13_leastOf 43 = .ok (.putfield 345, 3) := by decide +kernel
theorem dX13_leastOf_46 : decode cX13_leastOf 46 = .ok (.aload_n 0, 1) := by decide +kernel
theorem dX13_leastOf_47 : decode cX13_leastOf 47 = .ok (.dup, 1) := by decide +kernel
theorem dX13_leastOf_48 : decode cX13_leastOf 48 = .ok (.getfield 345, 3) := by decide +kernel
theorem dX13_leastOf_51 : decode cX13_leastOf 51 = .ok (.iload 4, 2) := by decide +kernel
theorem dX13_leastOf_53 : decode cX13_leastOf 53 = .ok (.iload_n 2, 1) := by decide +kernel
theorem dX13_leastOf_54 : decode cX13_leastOf 54 = .ok (.if_icmp .ne 7, 3) := by decide +kernel
theorem dX13_leastOf_57 : decode cX13_leastOf 57 = .ok (.iconst 1, 1) := by decide +kernel
theorem dX13_leastOf_58 : decode cX13_leastOf 58 = .ok (.goto 4, 3) := by decide +kernel
theorem dX13_leastOf_61 : decode cX13_leastOf 61 = .ok (.iconst 0, 1) := by decide +kernel
theorem dX13_leastOf_62 : decode cX13_leastOf 62 = .ok (.iadd, 1) := by decide +kernel
theorem dX13_leastOf_63 : decode cX13_leastOf 63 = .ok (.putfield 345, 3) := by decide +kernel
theorem dX13_leastOf_66 : decode cX13_leastOf 66 = .ok (.iinc 3 1, 3) := by decide +kernel
theorem dX13_leastOf_69 : decode cX13_leastOf 69 = .ok (.goto (-58), 3) := by decide +kernel
theorem dX13_leastOf_72 : decode cX13_leastOf 72 = .ok (.iload_n 2, 1) := by decide +kernel
theorem dX13_leastOf_73 : decode cX13_leastOf 73 = .ok (.ireturn, 1) := by decide +kernel
set_option maxRecDepth 20000 in
theorem ggX13_refusesGround_X13_in : GoodIn wsX13_refusesGround wsX13_in := goodIn_r _ [5] (by decide +kernel) (by decide +kernel)
set_option maxRecDepth 20000 in
theorem gX13_refusesGround_X13_in : GoodIn wsX13_refusesGround (va_wsS RX13 137 yX13_in wsX13_in) := goodIn_app (goodIn_of _ (by decide +kernel)) ggX13_refusesGround_X13_in
theorem dX13_refusesGround_0 : decode cX13_refusesGround 0 = .ok (.aload_n 0, 1) := by decide +kernel
theorem dX13_refusesGround_1 : decode cX13_refusesGround 1 = .ok (.getfield 271, 3) := by decide +kernel
theorem dX13_refusesGround_4 : decode cX13_refusesGround 4 = .ok (.ifnonnull 7, 3) := by decide +kernel
theorem dX13_refusesGround_7 : decode cX13_refusesGround 7 = .ok (.iconst 1, 1) := by decide +kernel
theorem dX13_refusesGround_8 : decode cX13_refusesGround 8 = .ok (.goto 18, 3) := by decide +kernel
theorem dX13_refusesGround_11 : decode cX13_refusesGround 11 = .ok (.iload_n 1, 1) := by decide +kernel
theorem dX13_refusesGround_12 : decode cX13_refusesGround 12 = .ok (.iconst 2, 1) := by decide +kernel
theorem dX13_refusesGround_13 : decode cX13_refusesGround 13 = .ok (.bipush 12, 2) := by decide +kernel
theorem dX13_refusesGround_15 : decode cX13_refusesGround 15 = .ok (.invokestatic 137, 3) := by decide +kernel
theorem dX13_refusesGround_18 : decode cX13_refusesGround 18 = .ok (.ifCond .eq 7, 3) := by decide +kernel
theorem dX13_refusesGround_21 : decode cX13_refusesGround 21 = .ok (.iconst 0, 1) := by decide +kernel
theorem dX13_refusesGround_22 : decode cX13_refusesGround 22 = .ok (.goto 4, 3) := by decide +kernel
theorem dX13_refusesGround_25 : decode cX13_refusesGround 25 = .ok (.iconst 2, 1) := by decide +kernel
theorem dX13_refusesGround_26 : decode cX13_refusesGround 26 = .ok (.ireturn, 1) := by decide +kernel
set_option maxRecDepth 20000 in
theorem ggX13_ground_X13_refusesGround : GoodIn wsX13_ground wsX13_refusesGround := goodIn_r _ [7, 8, 9, 10, 6, 11, 43, 44, 45, 46, 47, 48, 49, 50, 51, 52, 53, 54, 55, 56, 57, 58, 59, 60, 61, 62, 63, 64, 65, 66, 67, 68, 69, 70, 71, 72, 73, 74, 75, 76, 77, 78, 79, 80] (by decide +kernel) (by decide +kernel)
set_option maxRecDepth 20000 in
theorem gX13_ground_X13_refusesGround : GoodIn wsX13_ground (wsV RX13 351 RX13 yX13_refusesGround wsX13_refusesGround) := goodIn_app (goodIn_of _ (by decide +kernel)) ggX13_ground_X13_refusesGround
set_option maxRecDepth 20000 in
theorem ggX13_ground_X13_lost : GoodIn wsX13_ground wsX13_lost := goodIn_r _ [15, 16, 17, 18, 6, 19, 20, 21, 43, 44, 45, 46, 47, 48, 49, 50, 51, 52, 53, 54, 55, 56, 57, 58, 59, 60, 61, 62, 63, 64, 65, 66, 67, 68, 69, 70, 71, 72, 73, 74, 75, 76, 77, 78, 79, 80] (by decide +kernel) (by decide +kernel)
set_option maxRecDepth 20000 in
theorem gX13_ground_X13_lost : GoodIn wsX13_ground (wsV RX13 320 RX13 yX13_lost wsX13_lost) := goodIn_app (goodIn_of _ (by decide +kernel)) ggX13_ground_X13_lost
set_option maxRecDepth 20000 in
theorem ggX13_ground_X13_leastOf : GoodIn wsX13_ground wsX13_leastOf := goodIn_r _ [25, 26, 27, 28, 29, 30, 6, 31, 32, 33, 34, 35, 8, 36, 37, 38, 43, 44, 45, 46, 47, 48, 49, 50, 51, 52, 53, 54, 55, 56, 57, 58, 59, 60, 61, 62, 63, 64, 65, 66, 67, 68, 69, 70, 71, 72, 73, 74, 75, 76, 77, 78, 79, 80, 81, 82, 83, 84, 85, 86, 87, 88, 89, 90, 91, 92, 93, 94, 95, 96] (by decide +kernel) (by decide +kernel)
set_option maxRecDepth 20000 in
theorem gX13_ground_X13_leastOf : GoodIn wsX13_ground (wsV RX13 354 RX13 yX13_leastOf wsX13_leastOf) := goodIn_app (goodIn_of _ (by decide +kernel)) ggX13_ground_X13_leastOf
set_option maxRecDepth 20000 in
theorem ggX13_ground_X13_good : GoodIn wsX13_ground wsX13_good := goodIn_r _ [42, 20, 21, 43, 44, 45, 46, 47, 48, 49, 50, 51, 52, 53, 54, 55, 56, 57, 58, 59, 60, 61, 62, 63, 64, 65, 66, 67, 68, 69, 70, 71, 72, 73, 74, 75, 76, 77, 78, 79, 80] (by decide +kernel) (by decide +kernel)
set_option maxRecDepth 20000 in
theorem gX13_ground_X13_good : GoodIn wsX13_ground (wsV RX13 59 RX13 yX13_good wsX13_good) := goodIn_app (goodIn_of _ (by decide +kernel)) ggX13_ground_X13_good
theorem dX13_ground_0 : decode cX13_ground 0 = .ok (.aload_n 0, 1) := by decide +kernel
theorem dX13_ground_1 : decode cX13_ground 1 = .ok (.iconst 0, 1) := by decide +kernel
theorem dX13_ground_2 : decode cX13_ground 2 = .ok (.putfield 49, 3) := by decide +kernel
theorem dX13_ground_5 : decode cX13_ground 5 = .ok (.aload_n 0, 1) := by decide +kernel
theorem dX13_ground_6 : decode cX13_ground 6 = .ok (.iload_n 1, 1) := by decide +kernel
theorem dX13_ground_7 : decode cX13_ground 7 = .ok (.invokevirtual 351, 3) := by decide +kernel
theorem dX13_ground_10 : decode cX13_ground 10 = .ok (.istore_n 2, 1) := by decide +kernel
theorem dX13_ground_11 : decode cX13_ground 11 = .ok (.iload_n 2, 1) := by decide +kernel
theorem dX13_ground_12 : decode cX13_ground 12 = .ok (.ifCond .le 14, 3) := by decide +kernel
theorem dX13_ground_15 : decode cX13_ground 15 = .ok (.aload_n 0, 1) := by decide +kernel
theorem dX13_ground_16 : decode cX13_ground 16 = .ok (.iload_n 2, 1) := by decide +kernel
theorem dX13_ground_17 : decode cX13_ground 17 = .ok (.ldc_w 333, 3) := by decide +kernel
theorem dX13_ground_20 : decode cX13_ground 20 = .ok (.invokevirtual 320, 3) := by decide +kernel
theorem dX13_ground_23 : decode cX13_ground 23 = .ok (.goto 12, 3) := by decide +kernel
theorem dX13_ground_26 : decode cX13_ground 26 = .ok (.aload_n 0, 1) := by decide +kernel
theorem dX13_ground_27 : decode cX13_ground 27 = .ok (.aload_n 0, 1) := by decide +kernel
theorem dX13_ground_28 : decode cX13_ground 28 = .ok (.iload_n 1, 1) := by decide +kernel
theorem dX13_ground_29 : decode cX13_ground 29 = .ok (.invokevirtual 354, 3) := by decide +kernel
theorem dX13_ground_32 : decode cX13_ground 32 = .ok (.invokevirtual 59, 3) := by decide +kernel
theorem dX13_ground_35 : decode cX13_ground 35 = .ok (.ireturn, 1) := by decide +kernel
set_option maxRecDepth 20000 in
theorem ggX13_groundRow_X13_refusesGround : GoodIn wsX13_groundRow wsX13_refusesGround := goodIn_r _ [7, 8, 9, 10, 6, 11, 38, 39, 40, 41, 42, 43, 44, 45, 46, 47, 48, 49, 50, 51, 52, 53, 54, 55, 56, 57, 58, 59, 60, 61, 62, 63, 64, 65, 66, 67, 68, 69, 70, 71, 72, 73, 74, 75] (by decide +kernel) (by decide +kernel)
set_option maxRecDepth 20000 in
theorem gX13_groundRow_X13_refusesGround : GoodIn wsX13_groundRow (wsV RX13 351 RX13 yX13_refusesGround wsX13_refusesGround) := goodIn_app (goodIn_of _ (by decide +kernel)) ggX13_groundRow_X13_refusesGround
set_option maxRecDepth 20000 in
theorem ggX13_groundRow_X13_refused : GoodIn wsX13_groundRow wsX13_refused := goodIn_r _ [15, 16, 17, 38, 39, 40, 41, 42, 43, 44, 45, 46, 47, 48, 49, 50, 51, 52, 53, 54, 55, 56, 57, 58, 59, 60, 61, 62, 63, 64, 65, 66, 67, 68, 69, 70, 71, 72, 73, 74, 75] (by decide +kernel) (by decide +kernel)
set_option maxRecDepth 20000 in
theorem gX13_groundRow_X13_refused : GoodIn wsX13_groundRow (wsV RX13 55 RX13 yX13_refused wsX13_refused) := goodIn_app (goodIn_of _ (by decide +kernel)) ggX13_groundRow_X13_refused
set_option maxRecDepth 20000 in
theorem ggX13_groundRow_X13_leastOf : GoodIn wsX13_groundRow wsX13_leastOf := goodIn_r _ [21, 22, 23, 2, 24, 25, 6, 26, 27, 28, 29, 30, 8, 31, 32, 33, 38, 39, 40, 41, 42, 43, 44, 45, 46, 47, 48, 49, 50, 51, 52, 53, 54, 55, 56, 57, 58, 59, 60, 61, 62, 63, 64, 65, 66, 67, 68, 69, 70, 71, 72, 73, 74, 75, 76, 77, 78, 79, 80, 81, 82, 83, 84, 85, 86, 87, 88, 89, 90, 91] (by decide +kernel) (by decide +kernel)
set_option maxRecDepth 20000 in
theorem gX13_groundRow_X13_leastOf : GoodIn wsX13_groundRow (wsV RX13 354 RX13 yX13_leastOf wsX13_leastOf) := goodIn_app (goodIn_of _ (by decide +kernel)) ggX13_groundRow_X13_leastOf
set_option maxRecDepth 20000 in
theorem ggX13_groundRow_X13_good : GoodIn wsX13_groundRow wsX13_good := goodIn_r _ [37, 16, 17, 38, 39, 40, 41, 42, 43, 44, 45, 46, 47, 48, 49, 50, 51, 52, 53, 54, 55, 56, 57, 58, 59, 60, 61, 62, 63, 64, 65, 66, 67, 68, 69, 70, 71, 72, 73, 74, 75] (by decide +kernel) (by decide +kernel)
set_option maxRecDepth 20000 in
theorem gX13_groundRow_X13_good : GoodIn wsX13_groundRow (wsV RX13 59 RX13 yX13_good wsX13_good) := goodIn_app (goodIn_of _ (by decide +kernel)) ggX13_groundRow_X13_good
theorem dX13_groundRow_0 : decode cX13_groundRow 0 = .ok (.aload_n 0, 1) := by decide +kernel
theorem dX13_groundRow_1 : decode cX13_groundRow 1 = .ok (.iconst 0, 1) := by decide +kernel
theorem dX13_groundRow_2 : decode cX13_groundRow 2 = .ok (.putfield 49, 3) := by decide +kernel
theorem dX13_groundRow_5 : decode cX13_groundRow 5 = .ok (.aload_n 0, 1) := by decide +kernel
theorem dX13_groundRow_6 : decode cX13_groundRow 6 = .ok (.iload_n 1, 1) := by decide +kernel
theorem dX13_groundRow_7 : decode cX13_groundRow 7 = .ok (.invokevirtual 351, 3) := by decide +kernel
theorem dX13_groundRow_10 : decode cX13_groundRow 10 = .ok (.istore_n 2, 1) := by decide +kernel
theorem dX13_groundRow_11 : decode cX13_groundRow 11 = .ok (.iload_n 2, 1) := by decide +kernel
theorem dX13_groundRow_12 : decode cX13_groundRow 12 = .ok (.ifCond .le 9, 3) := by decide +kernel
theorem dX13_groundRow_15 : decode cX13_groundRow 15 = .ok (.aload_n 0, 1) := by decide +kernel
theorem dX13_groundRow_16 : decode cX13_groundRow 16 = .ok (.iload_n 2, 1) := by decide +kernel
theorem dX13_groundRow_17 : decode cX13_groundRow 17 = .ok (.invokevirtual 55, 3) := by decide +kernel
theorem dX13_groundRow_20 : decode cX13_groundRow 20 = .ok (.ireturn, 1) := by decide +kernel
theorem dX13_groundRow_21 : decode cX13_groundRow 21 = .ok (.aload_n 0, 1) := by decide +kernel
theorem dX13_groundRow_22 : decode cX13_groundRow 22 = .ok (.iload_n 1, 1) := by decide +kernel
theorem dX13_groundRow_23 : decode cX13_groundRow 23 = .ok (.invokevirtual 354, 3) := by decide +kernel
theorem dX13_groundRow_26 : decode cX13_groundRow 26 = .ok (.pop, 1) := by decide +kernel
theorem dX13_groundRow_27 : decode cX13_groundRow 27 = .ok (.aload_n 0, 1) := by decide +kernel
theorem dX13_groundRow_28 : decode cX13_groundRow 28 = .ok (.aload_n 0, 1) := by decide +kernel
theorem dX13_groundRow_29 : decode cX13_groundRow 29 = .ok (.getfield 348, 3) := by decide +kernel
theorem dX13_groundRow_32 : decode cX13_groundRow 32 = .ok (.invokevirtual 59, 3) := by decide +kernel
theorem dX13_groundRow_35 : decode cX13_groundRow 35 = .ok (.ireturn, 1) := by decide +kernel
set_option maxRecDepth 20000 in
theorem ggX13_groundMany_X13_refusesGround : GoodIn wsX13_groundMany wsX13_refusesGround := goodIn_r _ [7, 8, 9, 10, 6, 11, 38, 39, 40, 41, 42, 43, 44, 45, 46, 47, 48, 49, 50, 51, 52, 53, 54, 55, 56, 57, 58, 59, 60, 61, 62, 63, 64, 65, 66, 67, 68, 69, 70, 71, 72, 73, 74, 75] (by decide +kernel) (by decide +kernel)
set_option maxRecDepth 20000 in
theorem gX13_groundMany_X13_refusesGround : GoodIn wsX13_groundMany (wsV RX13 351 RX13 yX13_refusesGround wsX13_refusesGround) := goodIn_app (goodIn_of _ (by decide +kernel)) ggX13_groundMany_X13_refusesGround
set_option maxRecDepth 20000 in
theorem ggX13_groundMany_X13_refused : GoodIn wsX13_groundMany wsX13_refused := goodIn_r _ [15, 16, 17, 38, 39, 40, 41, 42, 43, 44, 45, 46, 47, 48, 49, 50, 51, 52, 53, 54, 55, 56, 57, 58, 59, 60, 61, 62, 63, 64, 65, 66, 67, 68, 69, 70, 71, 72, 73, 74, 75] (by decide +kernel) (by decide +kernel)
set_option maxRecDepth 20000 in
theorem gX13_groundMany_X13_refused : GoodIn wsX13_groundMany (wsV RX13 55 RX13 yX13_refused wsX13_refused) := goodIn_app (goodIn_of _ (by decide +kernel)) ggX13_groundMany_X13_refused
set_option maxRecDepth 20000 in
theorem ggX13_groundMany_X13_leastOf : GoodIn wsX13_groundMany wsX13_leastOf := goodIn_r _ [21, 22, 2, 23, 24, 25, 6, 26, 27, 28, 29, 30, 8, 31, 32, 33, 38, 39, 40, 41, 42, 43, 44, 45, 46, 47, 48, 49, 50, 51, 52, 53, 54, 55, 56, 57, 58, 59, 60, 61, 62, 63, 64, 65, 66, 67, 68, 69, 70, 71, 72, 73, 74, 75, 76, 77, 78, 79, 80, 81, 82, 83, 84, 85, 86, 87, 88, 89, 90, 91] (by decide +kernel) (by decide +kernel)
set_option maxRecDepth 20000 in
theorem gX13_groundMany_X13_leastOf : GoodIn wsX13_groundMany (wsV RX13 354 RX13 yX13_leastOf wsX13_leastOf) := goodIn_app (goodIn_of _ (by decide +kernel)) ggX13_groundMany_X13_leastOf
set_option maxRecDepth 20000 in
theorem ggX13_groundMany_X13_good : GoodIn wsX13_groundMany wsX13_good := goodIn_r _ [37, 16, 17, 38, 39, 40, 41, 42, 43, 44, 45, 46, 47, 48, 49, 50, 51, 52, 53, 54, 55, 56, 57, 58, 59, 60, 61, 62, 63, 64, 65, 66, 67, 68, 69, 70, 71, 72, 73, 74, 75] (by decide +kernel) (by decide +kernel)
set_option maxRecDepth 20000 in
theorem gX13_groundMany_X13_good : GoodIn wsX13_groundMany (wsV RX13 59 RX13 yX13_good wsX13_good) := goodIn_app (goodIn_of _ (by decide +kernel)) ggX13_groundMany_X13_good
theorem dX13_groundMany_0 : decode cX13_groundMany 0 = .ok (.aload_n 0, 1) := by decide +kernel
theorem dX13_groundMany_1 : decode cX13_groundMany 1 = .ok (.iconst 0, 1) := by decide +kernel
theorem dX13_groundMany_2 : decode cX13_groundMany 2 = .ok (.putfield 49, 3) := by decide +kernel
theorem dX13_groundMany_5 : decode cX13_groundMany 5 = .ok (.aload_n 0, 1) := by decide +kernel
theorem dX13_groundMany_6 : decode cX13_groundMany 6 = .ok (.iload_n 1, 1) := by decide +kernel
theorem dX13_groundMany_7 : decode cX13_groundMany 7 = .ok (.invokevirtual 351, 3) := by decide +kernel
theorem dX13_groundMany_10 : decode cX13_groundMany 10 = .ok (.istore_n 2, 1) := by decide +kernel
theorem dX13_groundMany_11 : decode cX13_groundMany 11 = .ok (.iload_n 2, 1) := by decide +kernel
theorem dX13_groundMany_12 : decode cX13_groundMany 12 = .ok (.ifCond .le 9, 3) := by decide +kernel
theorem dX13_groundMany_15 : decode cX13_groundMany 15 = .ok (.aload_n 0, 1) := by decide +kernel
theorem dX13_groundMany_16 : decode cX13_groundMany 16 = .ok (.iload_n 2, 1) := by decide +kernel
theorem dX13_groundMany_17 : decode cX13_groundMany 17 = .ok (.invokevirtual 55, 3) := by decide +kernel
theorem dX13_groundMany_20 : decode cX13_groundMany 20 = .ok (.ireturn, 1) := by decide +kernel
theorem dX13_groundMany_21 : decode cX13_groundMany 21 = .ok (.aload_n 0, 1) := by decide +kernel
theorem dX13_groundMany_22 : decode cX13_groundMany 22 = .ok (.iload_n 1, 1) := by decide +kernel
theorem dX13_groundMany_23 : decode cX13_groundMany 23 = .ok (.invokevirtual 354, 3) := by decide +kernel
theorem dX13_groundMany_26 : decode cX13_groundMany 26 = .ok (.pop, 1) := by decide +kernel
theorem dX13_groundMany_27 : decode cX13_groundMany 27 = .ok (.aload_n 0, 1) := by decide +kernel
theorem dX13_groundMany_28 : decode cX13_groundMany 28 = .ok (.aload_n 0, 1) := by decide +kernel
theorem dX13_groundMany_29 : decode cX13_groundMany 29 = .ok (.getfield 345, 3) := by decide +kernel
theorem dX13_groundMany_32 : decode cX13_groundMany 32 = .ok (.invokevirtual 59, 3) := by decide +kernel
theorem dX13_groundMany_35 : decode cX13_groundMany 35 = .ok (.ireturn, 1) := by decide +kernel
set_option maxRecDepth 20000 in
theorem ggX13_groundBest_X13_refused : GoodIn wsX13_groundBest wsX13_refused := goodIn_r _ [7, 8, 9, 31, 32, 33, 34, 35, 36, 37, 38, 39, 40, 41, 42, 43, 44, 45, 46, 47, 48, 49, 50, 51, 52, 53, 54, 55, 56, 57, 58, 59, 60, 61, 62, 63, 64, 65, 66, 67, 68] (by decide +kernel) (by decide +kernel)
set_option maxRecDepth 20000 in
theorem gX13_groundBest_X13_refused : GoodIn wsX13_groundBest (wsV RX13 55 RX13 yX13_refused wsX13_refused) := goodIn_app (goodIn_of _ (by decide +kernel)) ggX13_groundBest_X13_refused
set_option maxRecDepth 20000 in
theorem ggX13_groundBest_X13_leastOf : GoodIn wsX13_groundBest wsX13_leastOf := goodIn_r _ [13, 14, 15, 16, 17, 18, 6, 19, 20, 21, 22, 23, 2, 24, 25, 26, 31, 32, 33, 34, 35, 36, 37, 38, 39, 40, 41, 42, 43, 44, 45, 46, 47, 48, 49, 50, 51, 52, 53, 54, 55, 56, 57, 58, 59, 60, 61, 62, 63, 64, 65, 66, 67, 68, 69, 70, 71, 72, 73, 74, 75, 76, 77, 78, 79, 80, 81, 82, 83, 84] (by decide +kernel) (by decide +kernel)
set_option maxRecDepth 20000 in
theorem gX13_groundBest_X13_leastOf : GoodIn wsX13_groundBest (wsV RX13 354 RX13 yX13_leastOf wsX13_leastOf) := goodIn_app (goodIn_of _ (by decide +kernel)) ggX13_groundBest_X13_leastOf
set_option maxRecDepth 20000 in
theorem ggX13_groundBest_X13_good : GoodIn wsX13_groundBest wsX13_good := goodIn_r _ [30, 8, 9, 31, 32, 33, 34, 35, 36, 37, 38, 39, 40, 41, 42, 43, 44, 45, 46, 47, 48, 49, 50, 51, 52, 53, 54, 55, 56, 57, 58, 59, 60, 61, 62, 63, 64, 65, 66, 67, 68] (by decide +kernel) (by decide +kernel)
set_option maxRecDepth 20000 in
theorem gX13_groundBest_X13_good : GoodIn wsX13_groundBest (wsV RX13 59 RX13 yX13_good wsX13_good) := goodIn_app (goodIn_of _ (by decide +kernel)) ggX13_groundBest_X13_good
theorem dX13_groundBest_0 : decode cX13_groundBest 0 = .ok (.aload_n 0, 1) := by decide +kernel
theorem dX13_groundBest_1 : decode cX13_groundBest 1 = .ok (.iconst 0, 1) := by decide +kernel
theorem dX13_groundBest_2 : decode cX13_groundBest 2 = .ok (.putfield 49, 3) := by decide +kernel
theorem dX13_groundBest_5 : decode cX13_groundBest 5 = .ok (.aload_n 0, 1) := by decide +kernel
theorem dX13_groundBest_6 : decode cX13_groundBest 6 = .ok (.getfield 271, 3) := by decide +kernel
theorem dX13_groundBest_9 : decode cX13_groundBest 9 = .ok (.ifnonnull 9, 3) := by decide +kernel
theorem dX13_groundBest_12 : decode cX13_groundBest 12 = .ok (.aload_n 0, 1) := by decide +kernel
theorem dX13_groundBest_13 : decode cX13_groundBest 13 = .ok (.iconst 1, 1) := by decide +kernel
theorem dX13_groundBest_14 : decode cX13_groundBest 14 = .ok (.invokevirtual 55, 3) := by decide +kernel
theorem dX13_groundBest_17 : decode cX13_groundBest 17 = .ok (.ireturn, 1) := by decide +kernel
theorem dX13_groundBest_18 : decode cX13_groundBest 18 = .ok (.iconst 2, 1) := by decide +kernel
theorem dX13_groundBest_19 : decode cX13_groundBest 19 = .ok (.istore_n 1, 1) := by decide +kernel
theorem dX13_groundBest_20 : decode cX13_groundBest 20 = .ok (.aload_n 0, 1) := by decide +kernel
theorem dX13_groundBest_21 : decode cX13_groundBest 21 = .ok (.iconst 2, 1) := by decide +kernel
theorem dX13_groundBest_22 : decode cX13_groundBest 22 = .ok (.invokevirtual 354, 3) := by decide +kernel
theorem dX13_groundBest_25 : decode cX13_groundBest 25 = .ok (.istore_n 2, 1) := by decide +kernel
theorem dX13_groundBest_26 : decode cX13_groundBest 26 = .ok (.iconst 3, 1) := by decide +kernel
theorem dX13_groundBest_27 : decode cX13_groundBest 27 = .ok (.istore_n 3, 1) := by decide +kernel
theorem dX13_groundBest_28 : decode cX13_groundBest 28 = .ok (.iload_n 3, 1) := by decide +kernel
theorem dX13_groundBest_29 : decode cX13_groundBest 29 = .ok (.bipush 12, 2) := by decide +kernel
theorem dX13_groundBest_31 : decode cX13_groundBest 31 = .ok (.if_icmp .gt 34, 3) := by decide +kernel
theorem dX13_groundBest_34 : decode cX13_groundBest 34 = .ok (.aload_n 0, 1) := by decide +kernel
theorem dX13_groundBest_35 : decode cX13_groundBest 35 = .ok (.iload_n 3, 1) := by decide +kernel
theorem dX13_groundBest_36 : decode cX13_groundBest 36 = .ok (.invokevirtual 354, 3) := by decide +kernel
theorem dX13_groundBest_39 : decode cX13_groundBest 39 = .ok (.istore 4, 2) := by decide +kernel
theorem dX13_groundBest_41 : decode cX13_groundBest 41 = .ok (.iload 4, 2) := by decide +kernel
theorem dX13_groundBest_43 : decode cX13_groundBest 43 = .ok (.iload_n 1, 1) := by decide +kernel
theorem dX13_groundBest_44 : decode cX13_groundBest 44 = .ok (.imul, 1) := by decide +kernel
theorem dX13_groundBest_45 : decode cX13_groundBest 45 = .ok (.iload_n 2, 1) := by decide +kernel
theorem dX13_groundBest_46 : decode cX13_groundBest 46 = .ok (.iload_n 3, 1) := by decide +kernel
theorem dX13_groundBest_47 : decode cX13_groundBest 47 = .ok (.imul, 1) := by decide +kernel
theorem dX13_groundBest_48 : decode cX13_groundBest 48 = .ok (.if_icmp .lt 6, 3) := by decide +kernel
theorem dX13_groundBest_51 : decode cX13_groundBest 51 = .ok (.goto 8, 3) := by decide +kernel
theorem dX13_groundBest_54 : decode cX13_groundBest 54 = .ok (.iload 4, 2) := by decide +kernel
theorem dX13_groundBest_56 : decode cX13_groundBest 56 = .ok (.istore_n 2, 1) := by decide +kernel
theorem dX13_groundBest_57 : decode cX13_groundBest 57 = .ok (.iload_n 3, 1) := by decide +kernel
theorem dX13_groundBest_58 : decode cX13_groundBest 58 = .ok (.istore_n 1, 1) := by decide +kernel
theorem dX13_groundBest_59 : decode cX13_groundBest 59 = .ok (.iinc 3 1, 3) := by decide +kernel
theorem dX13_groundBest_62 : decode cX13_groundBest 62 = .ok (.goto (-34), 3) := by decide +kernel
theorem dX13_groundBest_65 : decode cX13_groundBest 65 = .ok (.aload_n 0, 1) := by decide +kernel
theorem dX13_groundBest_66 : decode cX13_groundBest 66 = .ok (.iload_n 1, 1) := by decide +kernel
theorem dX13_groundBest_67 : decode cX13_groundBest 67 = .ok (.invokevirtual 59, 3) := by decide +kernel
theorem dX13_groundBest_70 : decode cX13_groundBest 70 = .ok (.ireturn, 1) := by decide +kernel
set_option maxRecDepth 20000 in
theorem ggX13_looked_X13_all : GoodIn wsX13_looked wsX13_all := goodIn_r _ [4] (by decide +kernel) (by decide +kernel)
set_option maxRecDepth 20000 in
theorem gX13_looked_X13_all : GoodIn wsX13_looked (va_wsS RX13 285 yX13_all wsX13_all) := goodIn_app (goodIn_of _ (by decide +kernel)) ggX13_looked_X13_all
set_option maxRecDepth 20000 in
theorem ggX13_looked_X13_reversed : GoodIn wsX13_looked wsX13_reversed := goodIn_r _ [7] (by decide +kernel) (by decide +kernel)
set_option maxRecDepth 20000 in
theorem gX13_looked_X13_reversed : GoodIn wsX13_looked (va_wsS RX13 357 yX13_reversed wsX13_reversed) := goodIn_app (goodIn_of _ (by decide +kernel)) ggX13_looked_X13_reversed
theorem dX13_looked_0 : decode cX13_looked 0 = .ok (.iload_n 2, 1) := by decide +kernel
theorem dX13_looked_1 : decode cX13_looked 1 = .ok (.iconst 1, 1) := by decide +kernel
theorem dX13_looked_2 : decode cX13_looked 2 = .ok (.if_icmp .le 18, 3) := by decide +kernel
theorem dX13_looked_5 : decode cX13_looked 5 = .ok (.iload_n 1, 1) := by decide +kernel
theorem dX13_looked_6 : decode cX13_looked 6 = .ok (.invokestatic 285, 3) := by decide +kernel
theorem dX13_looked_9 : decode cX13_looked 9 = .ok (.iload_n 0, 1) := by decide +kernel
theorem dX13_looked_10 : decode cX13_looked 10 = .ok (.iload_n 1, 1) := by decide +kernel
theorem dX13_looked_11 : decode cX13_looked 11 = .ok (.invokestatic 357, 3) := by decide +kernel
theorem dX13_looked_14 : decode cX13_looked 14 = .ok (.iconst (-1), 1) := by decide +kernel
theorem dX13_looked_15 : decode cX13_looked 15 = .ok (.ixor, 1) := by decide +kernel
theorem dX13_looked_16 : decode cX13_looked 16 = .ok (.iand, 1) := by decide +kernel
theorem dX13_looked_17 : decode cX13_looked 17 = .ok (.goto 4, 3) := by decide +kernel
theorem dX13_looked_20 : decode cX13_looked 20 = .ok (.iload_n 0, 1) := by decide +kernel
theorem dX13_looked_21 : decode cX13_looked 21 = .ok (.istore_n 3, 1) := by decide +kernel
theorem dX13_looked_22 : decode cX13_looked 22 = .ok (.iload_n 2, 1) := by decide +kernel
theorem dX13_looked_23 : decode cX13_looked 23 = .ok (.iconst 2, 1) := by decide +kernel
theorem dX13_looked_24 : decode cX13_looked 24 = .ok (.irem, 1) := by decide +kernel
theorem dX13_looked_25 : decode cX13_looked 25 = .ok (.iconst 1, 1) := by decide +kernel
theorem dX13_looked_26 : decode cX13_looked 26 = .ok (.if_icmp .ne 14, 3) := by decide +kernel
theorem dX13_looked_29 : decode cX13_looked 29 = .ok (.iload_n 1, 1) := by decide +kernel
theorem dX13_looked_30 : decode cX13_looked 30 = .ok (.invokestatic 285, 3) := by decide +kernel
theorem dX13_looked_33 : decode cX13_looked 33 = .ok (.iload_n 3, 1) := by decide +kernel
theorem dX13_looked_34 : decode cX13_looked 34 = .ok (.iconst (-1), 1) := by decide +kernel
theorem dX13_looked_35 : decode cX13_looked 35 = .ok (.ixor, 1) := by decide +kernel
theorem dX13_looked_36 : decode cX13_looked 36 = .ok (.iand, 1) := by decide +kernel
theorem dX13_looked_37 : decode cX13_looked 37 = .ok (.goto 4, 3) := by decide +kernel
theorem dX13_looked_40 : decode cX13_looked 40 = .ok (.iload_n 3, 1) := by decide +kernel
theorem dX13_looked_41 : decode cX13_looked 41 = .ok (.ireturn, 1) := by decide +kernel
theorem dX13_isLook_0 : decode cX13_isLook 0 = .ok (.iload_n 0, 1) := by decide +kernel
theorem dX13_isLook_1 : decode cX13_isLook 1 = .ok (.iload_n 1, 1) := by decide +kernel
theorem dX13_isLook_2 : decode cX13_isLook 2 = .ok (.iand, 1) := by decide +kernel
theorem dX13_isLook_3 : decode cX13_isLook 3 = .ok (.iload_n 0, 1) := by decide +kernel
theorem dX13_isLook_4 : decode cX13_isLook 4 = .ok (.if_icmp .ne 7, 3) := by decide +kernel
theorem dX13_isLook_7 : decode cX13_isLook 7 = .ok (.iconst 1, 1) := by decide +kernel
theorem dX13_isLook_8 : decode cX13_isLook 8 = .ok (.goto 4, 3) := by decide +kernel
theorem dX13_isLook_11 : decode cX13_isLook 11 = .ok (.iconst 0, 1) := by decide +kernel
theorem dX13_isLook_12 : decode cX13_isLook 12 = .ok (.ireturn, 1) := by decide +kernel
set_option maxRecDepth 20000 in
theorem ggX13_leastAlike_X13_isLook : GoodIn wsX13_leastAlike wsX13_isLook := goodIn_r _ [4] (by decide +kernel) (by decide +kernel)
set_option maxRecDepth 20000 in
theorem gX13_leastAlike_X13_isLook : GoodIn wsX13_leastAlike (va_wsS RX13 360 yX13_isLook wsX13_isLook) := goodIn_app (goodIn_of _ (by decide +kernel)) ggX13_leastAlike_X13_isLook
set_option maxRecDepth 20000 in
theorem ggX13_leastAlike_X13_looked : GoodIn wsX13_leastAlike wsX13_looked := goodIn_r _ [7, 8, 9, 3, 10, 11, 12, 13] (by decide +kernel) (by decide +kernel)
set_option maxRecDepth 20000 in
theorem gX13_leastAlike_X13_looked : GoodIn wsX13_leastAlike (va_wsS RX13 363 yX13_looked wsX13_looked) := goodIn_app (goodIn_of _ (by decide +kernel)) ggX13_leastAlike_X13_looked
set_option maxRecDepth 20000 in
theorem ggX13_leastAlike_X13_turned : GoodIn wsX13_leastAlike wsX13_turned := goodIn_r _ [16, 8, 9, 3, 10] (by decide +kernel) (by decide +kernel)
set_option maxRecDepth 20000 in
theorem gX13_leastAlike_X13_turned : GoodIn wsX13_leastAlike (va_wsS RX13 301 yX13_turned wsX13_turned) := goodIn_app (goodIn_of _ (by decide +kernel)) ggX13_leastAlike_X13_turned
theorem dX13_leastAlike_0 : decode cX13_leastAlike 0 = .ok (.iload_n 0, 1) := by decide +kernel
theorem dX13_leastAlike_1 : decode cX13_leastAlike 1 = .ok (.istore_n 3, 1) := by decide +kernel
theorem dX13_leastAlike_2 : decode cX13_leastAlike 2 = .ok (.iconst 0, 1) := by decide +kernel
theorem dX13_leastAlike_3 : decode cX13_leastAlike 3 = .ok (.istore 4, 2) := by decide +kernel
theorem dX13_leastAlike_5 : decode cX13_leastAlike 5 = .ok (.iload 4, 2) := by decide +kernel
theorem dX13_leastAlike_7 : decode cX13_leastAlike 7 = .ok (.iconst 4, 1) := by decide +kernel
theorem dX13_leastAlike_8 : decode cX13_leastAlike 8 = .ok (.if_icmp .ge 62, 3) := by decide +kernel
theorem dX13_leastAlike_11 : decode cX13_leastAlike 11 = .ok (.iload 4, 2) := by decide +kernel
theorem dX13_leastAlike_13 : decode cX13_leastAlike 13 = .ok (.iload_n 2, 1) := by decide +kernel
theorem dX13_leastAlike_14 : decode cX13_leastAlike 14 = .ok (.invokestatic 360, 3) := by decide +kernel
theorem dX13_leastAlike_17 : decode cX13_leastAlike 17 = .ok (.ifCond .ne 6, 3) := by decide +kernel
theorem dX13_leastAlike_20 : decode cX13_leastAlike 20 = .ok (.goto 44, 3) := by decide +kernel
theorem dX13_leastAlike_23 : decode cX13_leastAlike 23 = .ok (.iload_n 0, 1) := by decide +kernel
theorem dX13_leastAlike_24 : decode cX13_leastAlike 24 = .ok (.iload_n 1, 1) := by decide +kernel
theorem dX13_leastAlike_25 : decode cX13_leastAlike 25 = .ok (.iload 4, 2) := by decide +kernel
theorem dX13_leastAlike_27 : decode cX13_leastAlike 27 = .ok (.invokestatic 363, 3) := by decide +kernel
theorem dX13_leastAlike_30 : decode cX13_leastAlike 30 = .ok (.istore 5, 2) := by decide +kernel
theorem dX13_leastAlike_32 : decode cX13_leastAlike 32 = .ok (.iconst 0, 1) := by decide +kernel
theorem dX13_leastAlike_33 : decode cX13_leastAlike 33 = .ok (.istore 6, 2) := by decide +kernel
theorem dX13_leastAlike_35 : decode cX13_leastAlike 35 = .ok (.iload 6, 2) := by decide +kernel
theorem dX13_leastAlike_37 : decode cX13_leastAlike 37 = .ok (.iload_n 1, 1) := by decide +kernel
theorem dX13_leastAlike_38 : decode cX13_leastAlike 38 = .ok (.if_icmp .ge 26, 3) := by decide +kernel
theorem dX13_leastAlike_41 : decode cX13_leastAlike 41 = .ok (.iload 5, 2) := by decide +kernel
theorem dX13_leastAlike_43 : decode cX13_leastAlike 43 = .ok (.iload_n 3, 1) := by decide +kernel
theorem dX13_leastAlike_44 : decode cX13_leastAlike 44 = .ok (.if_icmp .ge 6, 3) := by decide +kernel
theorem dX13_leastAlike_47 : decode cX13_leastAlike 47 = .ok (.iload 5, 2) := by decide +kernel
theorem dX13_leastAlike_49 : decode cX13_leastAlike 49 = .ok (.istore_n 3, 1) := by decide +kernel
theorem dX13_leastAlike_50 : decode cX13_leastAlike 50 = .ok (.iload 5, 2) := by decide +kernel
theorem dX13_leastAlike_52 : decode cX13_leastAlike 52 = .ok (.iload_n 1, 1) := by decide +kernel
theorem dX13_leastAlike_53 : decode cX13_leastAlike 53 = .ok (.invokestatic 301, 3) := by decide +kernel
theorem dX13_leastAlike_56 : decode cX13_leastAlike 56 = .ok (.istore 5, 2) := by decide +kernel
theorem dX13_leastAlike_58 : decode cX13_leastAlike 58 = .ok (.iinc 6 1, 3) := by decide +kernel
theorem dX13_leastAlike_61 : decode cX13_leastAlike 61 = .ok (.goto (-26), 3) := by decide +kernel
theorem dX13_leastAlike_64 : decode cX13_leastAlike 64 = .ok (.iinc 4 1, 3) := by decide +kernel
theorem dX13_leastAlike_67 : decode cX13_leastAlike 67 = .ok (.goto (-62), 3) := by decide +kernel
theorem dX13_leastAlike_70 : decode cX13_leastAlike 70 = .ok (.iload_n 3, 1) := by decide +kernel
theorem dX13_leastAlike_71 : decode cX13_leastAlike 71 = .ok (.ireturn, 1) := by decide +kernel
set_option maxRecDepth 20000 in
theorem ggX13_kinds_X13_refused : GoodIn wsX13_kinds wsX13_refused := goodIn_r _ [7, 8, 9, 44, 45, 46, 47, 48, 49, 50, 51, 52, 53, 54, 55, 56, 57, 58, 59, 60, 61, 62, 63, 64, 65, 66, 67, 68, 69, 70, 71, 72, 73, 74, 75, 76, 77, 78, 79, 80, 81] (by decide +kernel) (by decide +kernel)
set_option maxRecDepth 20000 in
theorem gX13_kinds_X13_refused : GoodIn wsX13_kinds (wsV RX13 55 RX13 yX13_refused wsX13_refused) := goodIn_app (goodIn_of _ (by decide +kernel)) ggX13_kinds_X13_refused
set_option maxRecDepth 20000 in
theorem ggX13_kinds_X13_in : GoodIn wsX13_kinds wsX13_in := goodIn_r _ [12] (by decide +kernel) (by decide +kernel)
set_option maxRecDepth 20000 in
theorem gX13_kinds_X13_in : GoodIn wsX13_kinds (va_wsS RX13 137 yX13_in wsX13_in) := goodIn_app (goodIn_of _ (by decide +kernel)) ggX13_kinds_X13_in
set_option maxRecDepth 20000 in
theorem ggX13_kinds_X13_all : GoodIn wsX13_kinds wsX13_all := goodIn_r _ [15] (by decide +kernel) (by decide +kernel)
set_option maxRecDepth 20000 in
theorem gX13_kinds_X13_all : GoodIn wsX13_kinds (va_wsS RX13 285 yX13_all wsX13_all) := goodIn_app (goodIn_of _ (by decide +kernel)) ggX13_kinds_X13_all
set_option maxRecDepth 20000 in
theorem ggX13_kinds_X13_repeats : GoodIn wsX13_kinds wsX13_repeats := goodIn_r _ [18, 19, 20, 6, 21, 22, 23, 24] (by decide +kernel) (by decide +kernel)
set_option maxRecDepth 20000 in
theorem gX13_kinds_X13_repeats : GoodIn wsX13_kinds (va_wsS RX13 295 yX13_repeats wsX13_repeats) := goodIn_app (goodIn_of _ (by decide +kernel)) ggX13_kinds_X13_repeats
set_option maxRecDepth 20000 in
theorem ggX13_kinds_X13_leastAlike : GoodIn wsX13_kinds wsX13_leastAlike := goodIn_r _ [27, 28, 29, 6, 30, 31, 32, 33, 13, 14, 15, 34, 35, 36, 37, 38, 39] (by decide +kernel) (by decide +kernel)
set_option maxRecDepth 20000 in
theorem gX13_kinds_X13_leastAlike : GoodIn wsX13_kinds (va_wsS RX13 366 yX13_leastAlike wsX13_leastAlike) := goodIn_app (goodIn_of _ (by decide +kernel)) ggX13_kinds_X13_leastAlike
set_option maxRecDepth 20000 in
theorem ggX13_kinds_X13_good : GoodIn wsX13_kinds wsX13_good := goodIn_r _ [43, 8, 9, 44, 45, 46, 47, 48, 49, 50, 51, 52, 53, 54, 55, 56, 57, 58, 59, 60, 61, 62, 63, 64, 65, 66, 67, 68, 69, 70, 71, 72, 73, 74, 75, 76, 77, 78, 79, 80, 81] (by decide +kernel) (by decide +kernel)
set_option maxRecDepth 20000 in
theorem gX13_kinds_X13_good : GoodIn wsX13_kinds (wsV RX13 59 RX13 yX13_good wsX13_good) := goodIn_app (goodIn_of _ (by decide +kernel)) ggX13_kinds_X13_good
theorem dX13_kinds_0 : decode cX13_kinds 0 = .ok (.aload_n 0, 1) := by decide +kernel
theorem dX13_kinds_1 : decode cX13_kinds 1 = .ok (.iconst 0, 1) := by decide +kernel
theorem dX13_kinds_2 : decode cX13_kinds 2 = .ok (.putfield 49, 3) := by decide +kernel
theorem dX13_kinds_5 : decode cX13_kinds 5 = .ok (.aload_n 0, 1) := by decide +kernel
theorem dX13_kinds_6 : decode cX13_kinds 6 = .ok (.getfield 271, 3) := by decide +kernel
theorem dX13_kinds_9 : decode cX13_kinds 9 = .ok (.ifnonnull 9, 3) := by decide +kernel
theorem dX13_kinds_12 : decode cX13_kinds 12 = .ok (.aload_n 0, 1) := by decide +kernel
theorem dX13_kinds_13 : decode cX13_kinds 13 = .ok (.iconst 1, 1) := by decide +kernel
theorem dX13_kinds_14 : decode cX13_kinds 14 = .ok (.invokevirtual 55, 3) := by decide +kernel
theorem dX13_kinds_17 : decode cX13_kinds 17 = .ok (.ireturn, 1) := by decide +kernel
theorem dX13_kinds_18 : decode cX13_kinds 18 = .ok (.iload_n 1, 1) := by decide +kernel
theorem dX13_kinds_19 : decode cX13_kinds 19 = .ok (.iconst 1, 1) := by decide +kernel
theorem dX13_kinds_20 : decode cX13_kinds 20 = .ok (.bipush 12, 2) := by decide +kernel
theorem dX13_kinds_22 : decode cX13_kinds 22 = .ok (.invokestatic 137, 3) := by decide +kernel
theorem dX13_kinds_25 : decode cX13_kinds 25 = .ok (.ifCond .eq 12, 3) := by decide +kernel
theorem dX13_kinds_28 : decode cX13_kinds 28 = .ok (.iload_n 2, 1) := by decide +kernel
theorem dX13_kinds_29 : decode cX13_kinds 29 = .ok (.iconst 0, 1) := by decide +kernel
theorem dX13_kinds_30 : decode cX13_kinds 30 = .ok (.iconst 3, 1) := by decide +kernel
theorem dX13_kinds_31 : decode cX13_kinds 31 = .ok (.invokestatic 137, 3) := by decide +kernel
theorem dX13_kinds_34 : decode cX13_kinds 34 = .ok (.ifCond .ne 9, 3) := by decide +kernel
theorem dX13_kinds_37 : decode cX13_kinds 37 = .ok (.aload_n 0, 1) := by decide +kernel
theorem dX13_kinds_38 : decode cX13_kinds 38 = .ok (.iconst 2, 1) := by decide +kernel
theorem dX13_kinds_39 : decode cX13_kinds 39 = .ok (.invokevirtual 55, 3) := by decide +kernel
theorem dX13_kinds_42 : decode cX13_kinds 42 = .ok (.ireturn, 1) := by decide +kernel
theorem dX13_kinds_43 : decode cX13_kinds 43 = .ok (.iconst 0, 1) := by decide +kernel
theorem dX13_kinds_44 : decode cX13_kinds 44 = .ok (.istore 4, 2) := by decide +kernel
theorem dX13_kinds_46 : decode cX13_kinds 46 = .ok (.iconst 0, 1) := by decide +kernel
theorem dX13_kinds_47 : decode cX13_kinds 47 = .ok (.istore 5, 2) := by decide +kernel
theorem dX13_kinds_49 : decode cX13_kinds 49 = .ok (.iload 5, 2) := by decide +kernel
theorem dX13_kinds_51 : decode cX13_kinds 51 = .ok (.iload_n 1, 1) := by decide +kernel
theorem dX13_kinds_52 : decode cX13_kinds 52 = .ok (.invokestatic 285, 3) := by decide +kernel
theorem dX13_kinds_55 : decode cX13_kinds 55 = .ok (.if_icmp .gt 45, 3) := by decide +kernel
theorem dX13_kinds_58 : decode cX13_kinds 58 = .ok (.iload 4, 2) := by decide +kernel
theorem dX13_kinds_60 : decode cX13_kinds 60 = .ok (.iload_n 3, 1) := by decide +kernel
theorem dX13_kinds_61 : decode cX13_kinds 61 = .ok (.ifCond .eq 13, 3) := by decide +kernel
theorem dX13_kinds_64 : decode cX13_kinds 64 = .ok (.iload 5, 2) := by decide +kernel
theorem dX13_kinds_66 : decode cX13_kinds 66 = .ok (.iload_n 1, 1) := by decide +kernel
theorem dX13_kinds_67 : decode cX13_kinds 67 = .ok (.invokestatic 295, 3) := by decide +kernel
theorem dX13_kinds_70 : decode cX13_kinds 70 = .ok (.iload_n 1, 1) := by decide +kernel
theorem dX13_kinds_71 : decode cX13_kinds 71 = .ok (.if_icmp .ne 19, 3) := by decide +kernel
theorem dX13_kinds_74 : decode cX13_kinds 74 = .ok (.iload 5, 2) := by decide +kernel
theorem dX13_kinds_76 : decode cX13_kinds 76 = .ok (.iload_n 1, 1) := by decide +kernel
theorem dX13_kinds_77 : decode cX13_kinds 77 = .ok (.iload_n 2, 1) := by decide +kernel
theorem dX13_kinds_78 : decode cX13_kinds 78 = .ok (.invokestatic 366, 3) := by decide +kernel
theorem dX13_kinds_81 : decode cX13_kinds 81 = .ok (.iload 5, 2) := by decide +kernel
theorem dX13_kinds_83 : decode cX13_kinds 83 = .ok (.if_icmp .ne 7, 3) := by decide +kernel
theorem dX13_kinds_86 : decode cX13_kinds 86 = .ok (.iconst 1, 1) := by decide +kernel
theorem dX13_kinds_87 : decode cX13_kinds 87 = .ok (.goto 4, 3) := by decide +kernel
theorem dX13_kinds_90 : decode cX13_kinds 90 = .ok (.iconst 0, 1) := by decide +kernel
theorem dX13_kinds_91 : decode cX13_kinds 91 = .ok (.iadd, 1) := by decide +kernel
theorem dX13_kinds_92 : decode cX13_kinds 92 = .ok (.istore 4, 2) := by decide +kernel
theorem dX13_kinds_94 : decode cX13_kinds 94 = .ok (.iinc 5 1, 3) := by decide +kernel
theorem dX13_kinds_97 : decode cX13_kinds 97 = .ok (.goto (-48), 3) := by decide +kernel
theorem dX13_kinds_100 : decode cX13_kinds 100 = .ok (.aload_n 0, 1) := by decide +kernel
theorem dX13_kinds_101 : decode cX13_kinds 101 = .ok (.iload 4, 2) := by decide +kernel
theorem dX13_kinds_103 : decode cX13_kinds 103 = .ok (.invokevirtual 59, 3) := by decide +kernel
theorem dX13_kinds_106 : decode cX13_kinds 106 = .ok (.ireturn, 1) := by decide +kernel
set_option maxRecDepth 20000 in
theorem ggX13_leastBy_X13_row : GoodIn wsX13_leastBy wsX13_row := goodIn_r _ [5, 6, 29, 30, 31, 32, 33, 34, 35, 36, 37, 38, 39, 40, 41, 42, 43, 44, 45, 46, 47, 48, 49, 50, 51, 52, 53, 54, 55, 56, 57, 58, 59, 60, 61, 62, 63, 64, 65, 66] (by decide +kernel) (by decide +kernel)
set_option maxRecDepth 20000 in
theorem gX13_leastBy_X13_row : GoodIn wsX13_leastBy (wsV RX13 312 RX13 yX13_row wsX13_row) := goodIn_app (goodIn_of _ (by decide +kernel)) ggX13_leastBy_X13_row
set_option maxRecDepth 20000 in
theorem ggX13_leastBy_X13_steps : GoodIn wsX13_leastBy wsX13_steps := goodIn_r _ [10, 6, 29, 30, 31, 32, 33, 34, 35, 36, 37, 38, 39, 40, 41, 42, 43, 44, 45, 46, 47, 48, 49, 50, 51, 52, 53, 54, 55, 56, 57, 58, 59, 60, 61, 62, 63, 64, 65, 66] (by decide +kernel) (by decide +kernel)
set_option maxRecDepth 20000 in
theorem gX13_leastBy_X13_steps : GoodIn wsX13_leastBy (wsV RX13 310 RX13 yX13_steps wsX13_steps) := goodIn_app (goodIn_of _ (by decide +kernel)) ggX13_leastBy_X13_steps
set_option maxRecDepth 20000 in
theorem ggX13_leastBy_X13_leastAlike : GoodIn wsX13_leastBy wsX13_leastAlike := goodIn_r _ [13, 14, 15, 4, 16, 17, 18, 19, 20, 21, 22, 23, 24, 25, 26, 27, 28] (by decide +kernel) (by decide +kernel)
set_option maxRecDepth 20000 in
theorem gX13_leastBy_X13_leastAlike : GoodIn wsX13_leastBy (va_wsS RX13 366 yX13_leastAlike wsX13_leastAlike) := goodIn_app (goodIn_of _ (by decide +kernel)) ggX13_leastBy_X13_leastAlike
theorem dX13_leastBy_0 : decode cX13_leastBy 0 = .ok (.aload_n 0, 1) := by decide +kernel
theorem dX13_leastBy_1 : decode cX13_leastBy 1 = .ok (.iload_n 1, 1) := by decide +kernel
theorem dX13_leastBy_2 : decode cX13_leastBy 2 = .ok (.invokevirtual 312, 3) := by decide +kernel
theorem dX13_leastBy_5 : decode cX13_leastBy 5 = .ok (.aload_n 0, 1) := by decide +kernel
theorem dX13_leastBy_6 : decode cX13_leastBy 6 = .ok (.iload_n 1, 1) := by decide +kernel
theorem dX13_leastBy_7 : decode cX13_leastBy 7 = .ok (.invokevirtual 310, 3) := by decide +kernel
theorem dX13_leastBy_10 : decode cX13_leastBy 10 = .ok (.iload_n 2, 1) := by decide +kernel
theorem dX13_leastBy_11 : decode cX13_leastBy 11 = .ok (.invokestatic 366, 3) := by decide +kernel
theorem dX13_leastBy_14 : decode cX13_leastBy 14 = .ok (.ireturn, 1) := by decide +kernel
set_option maxRecDepth 20000 in
theorem ggX13_alike_X13_isStack : GoodIn wsX13_alike wsX13_isStack := goodIn_r _ [6, 7, 52, 53, 54, 55, 56, 57, 58, 59, 60, 61, 62, 63, 64, 65, 66, 67, 68, 69, 70, 71, 72, 73, 74, 75, 76, 77, 78, 79, 80, 81, 82, 83, 84, 85, 86, 87, 88, 89, 90, 91, 92, 93, 94, 95, 96, 97, 98, 99, 100, 101, 102, 103, 104, 105] (by decide +kernel) (by decide +kernel)
set_option maxRecDepth 20000 in
theorem gX13_alike_X13_isStack : GoodIn wsX13_alike (wsV RX13 307 RX13 yX13_isStack wsX13_isStack) := goodIn_app (goodIn_of _ (by decide +kernel)) ggX13_alike_X13_isStack
set_option maxRecDepth 20000 in
theorem ggX13_alike_X13_refused : GoodIn wsX13_alike wsX13_refused := goodIn_r _ [11, 12, 13, 52, 53, 54, 55, 56, 57, 58, 59, 60, 61, 62, 63, 64, 65, 66, 67, 68, 69, 70, 71, 72, 73, 74, 75, 76, 77, 78, 79, 80, 81, 82, 83, 84, 85, 86, 87, 88, 89] (by decide +kernel) (by decide +kernel)
set_option maxRecDepth 20000 in
theorem gX13_alike_X13_refused : GoodIn wsX13_alike (wsV RX13 55 RX13 yX13_refused wsX13_refused) := goodIn_app (goodIn_of _ (by decide +kernel)) ggX13_alike_X13_refused
set_option maxRecDepth 20000 in
theorem ggX13_alike_X13_in : GoodIn wsX13_alike wsX13_in := goodIn_r _ [16] (by decide +kernel) (by decide +kernel)
set_option maxRecDepth 20000 in
theorem gX13_alike_X13_in : GoodIn wsX13_alike (va_wsS RX13 137 yX13_in wsX13_in) := goodIn_app (goodIn_of _ (by decide +kernel)) ggX13_alike_X13_in
set_option maxRecDepth 20000 in
theorem ggX13_alike_X13_steps : GoodIn wsX13_alike wsX13_steps := goodIn_r _ [20, 21, 52, 53, 54, 55, 56, 57, 58, 59, 60, 61, 62, 63, 64, 65, 66, 67, 68, 69, 70, 71, 72, 73, 74, 75, 76, 77, 78, 79, 80, 81, 82, 83, 84, 85, 86, 87, 88, 89] (by decide +kernel) (by decide +kernel)
set_option maxRecDepth 20000 in
theorem gX13_alike_X13_steps : GoodIn wsX13_alike (wsV RX13 310 RX13 yX13_steps wsX13_steps) := goodIn_app (goodIn_of _ (by decide +kernel)) ggX13_alike_X13_steps
set_option maxRecDepth 20000 in
theorem ggX13_alike_X13_leastBy : GoodIn wsX13_alike wsX13_leastBy := goodIn_r _ [25, 26, 27, 28, 5, 29, 21, 17, 18, 19, 20, 30, 31, 32, 33, 34, 35, 36, 37, 38, 39, 40, 41, 42, 43, 44, 45, 46, 47, 52, 53, 54, 55, 56, 57, 58, 59, 60, 61, 62, 63, 64, 65, 66, 67, 68, 69, 70, 71, 72, 73, 74, 75, 76, 77, 78, 79, 80, 81, 82, 83, 84, 85, 86, 87, 88, 89] (by decide +kernel) (by decide +kernel)
set_option maxRecDepth 20000 in
theorem gX13_alike_X13_leastBy : GoodIn wsX13_alike (wsV RX13 369 RX13 yX13_leastBy wsX13_leastBy) := goodIn_app (goodIn_of _ (by decide +kernel)) ggX13_alike_X13_leastBy
set_option maxRecDepth 20000 in
theorem ggX13_alike_X13_good : GoodIn wsX13_alike wsX13_good := goodIn_r _ [51, 12, 13, 52, 53, 54, 55, 56, 57, 58, 59, 60, 61, 62, 63, 64, 65, 66, 67, 68, 69, 70, 71, 72, 73, 74, 75, 76, 77, 78, 79, 80, 81, 82, 83, 84, 85, 86, 87, 88, 89] (by decide +kernel) (by decide +kernel)
set_option maxRecDepth 20000 in
theorem gX13_alike_X13_good : GoodIn wsX13_alike (wsV RX13 59 RX13 yX13_good wsX13_good) := goodIn_app (goodIn_of _ (by decide +kernel)) ggX13_alike_X13_good
theorem dX13_alike_0 : decode cX13_alike 0 = .ok (.aload_n 0, 1) := by decide +kernel
theorem dX13_alike_1 : decode cX13_alike 1 = .ok (.iconst 0, 1) := by decide +kernel
theorem dX13_alike_2 : decode cX13_alike 2 = .ok (.putfield 49, 3) := by decide +kernel
theorem dX13_alike_5 : decode cX13_alike 5 = .ok (.aload_n 0, 1) := by decide +kernel
theorem dX13_alike_6 : decode cX13_alike 6 = .ok (.iload_n 1, 1) := by decide +kernel
theorem dX13_alike_7 : decode cX13_alike 7 = .ok (.invokevirtual 307, 3) := by decide +kernel
theorem dX13_alike_10 : decode cX13_alike 10 = .ok (.ifCond .eq 11, 3) := by decide +kernel
theorem dX13_alike_13 : decode cX13_alike 13 = .ok (.aload_n 0, 1) := by decide +kernel
theorem dX13_alike_14 : decode cX13_alike 14 = .ok (.iload_n 2, 1) := by decide +kernel
theorem dX13_alike_15 : decode cX13_alike 15 = .ok (.invokevirtual 307, 3) := by decide +kernel
theorem dX13_alike_18 : decode cX13_alike 18 = .ok (.ifCond .ne 9, 3) := by decide +kernel
theorem dX13_alike_21 : decode cX13_alike 21 = .ok (.aload_n 0, 1) := by decide +kernel
theorem dX13_alike_22 : decode cX13_alike 22 = .ok (.iconst 1, 1) := by decide +kernel
theorem dX13_alike_23 : decode cX13_alike 23 = .ok (.invokevirtual 55, 3) := by decide +kernel
theorem dX13_alike_26 : decode cX13_alike 26 = .ok (.ireturn, 1) := by decide +kernel
theorem dX13_alike_27 : decode cX13_alike 27 = .ok (.iload_n 3, 1) := by decide +kernel
theorem dX13_alike_28 : decode cX13_alike 28 = .ok (.iconst 0, 1) := by decide +kernel
theorem dX13_alike_29 : decode cX13_alike 29 = .ok (.iconst 3, 1) := by decide +kernel
theorem dX13_alike_30 : decode cX13_alike 30 = .ok (.invokestatic 137, 3) := by decide +kernel
theorem dX13_alike_33 : decode cX13_alike 33 = .ok (.ifCond .ne 9, 3) := by decide +kernel
theorem dX13_alike_36 : decode cX13_alike 36 = .ok (.aload_n 0, 1) := by decide +kernel
theorem dX13_alike_37 : decode cX13_alike 37 = .ok (.iconst 2, 1) := by decide +kernel
theorem dX13_alike_38 : decode cX13_alike 38 = .ok (.invokevirtual 55, 3) := by decide +kernel
theorem dX13_alike_41 : decode cX13_alike 41 = .ok (.ireturn, 1) := by decide +kernel
theorem dX13_alike_42 : decode cX13_alike 42 = .ok (.aload_n 0, 1) := by decide +kernel
theorem dX13_alike_43 : decode cX13_alike 43 = .ok (.aload_n 0, 1) := by decide +kernel
theorem dX13_alike_44 : decode cX13_alike 44 = .ok (.iload_n 1, 1) := by decide +kernel
theorem dX13_alike_45 : decode cX13_alike 45 = .ok (.invokevirtual 310, 3) := by decide +kernel
theorem dX13_alike_48 : decode cX13_alike 48 = .ok (.aload_n 0, 1) := by decide +kernel
theorem dX13_alike_49 : decode cX13_alike 49 = .ok (.iload_n 2, 1) := by decide +kernel
theorem dX13_alike_50 : decode cX13_alike 50 = .ok (.invokevirtual 310, 3) := by decide +kernel
theorem dX13_alike_53 : decode cX13_alike 53 = .ok (.if_icmp .ne 22, 3) := by decide +kernel
theorem dX13_alike_56 : decode cX13_alike 56 = .ok (.aload_n 0, 1) := by decide +kernel
theorem dX13_alike_57 : decode cX13_alike 57 = .ok (.iload_n 1, 1) := by decide +kernel
theorem dX13_alike_58 : decode cX13_alike 58 = .ok (.iload_n 3, 1) := by decide +kernel
theorem dX13_alike_59 : decode cX13_alike 59 = .ok (.invokevirtual 369, 3) := by decide +kernel
theorem dX13_alike_62 : decode cX13_alike 62 = .ok (.aload_n 0, 1) := by decide +kernel
theorem dX13_alike_63 : decode cX13_alike 63 = .ok (.iload_n 2, 1) := by decide +kernel
theorem dX13_alike_64 : decode cX13_alike 64 = .ok (.iload_n 3, 1) := by decide +kernel
theorem dX13_alike_65 : decode cX13_alike 65 = .ok (.invokevirtual 369, 3) := by decide +kernel
theorem dX13_alike_68 : decode cX13_alike 68 = .ok (.if_icmp .ne 7, 3) := by decide +kernel
theorem dX13_alike_71 : decode cX13_alike 71 = .ok (.iconst 1, 1) := by decide +kernel
theorem dX13_alike_72 : decode cX13_alike 72 = .ok (.goto 4, 3) := by decide +kernel
theorem dX13_alike_75 : decode cX13_alike 75 = .ok (.iconst 0, 1) := by decide +kernel
theorem dX13_alike_76 : decode cX13_alike 76 = .ok (.invokevirtual 59, 3) := by decide +kernel
theorem dX13_alike_79 : decode cX13_alike 79 = .ok (.ireturn, 1) := by decide +kernel
set_option maxRecDepth 20000 in
theorem ggX13_least_X13_isStack : GoodIn wsX13_least wsX13_isStack := goodIn_r _ [6, 7, 52, 53, 54, 55, 56, 57, 58, 59, 60, 61, 62, 63, 64, 65, 66, 67, 68, 69, 70, 71, 72, 73, 74, 75, 76, 77, 78, 79, 80, 81, 82, 83, 84, 85, 86, 87, 88, 89, 90, 91, 92, 93, 94, 95, 96, 97, 98, 99, 100, 101, 102, 103, 104, 105] (by decide +kernel) (by decide +kernel)
set_option maxRecDepth 20000 in
theorem gX13_least_X13_isStack : GoodIn wsX13_least (wsV RX13 307 RX13 yX13_isStack wsX13_isStack) := goodIn_app (goodIn_of _ (by decide +kernel)) ggX13_least_X13_isStack
set_option maxRecDepth 20000 in
theorem ggX13_least_X13_refused : GoodIn wsX13_least wsX13_refused := goodIn_r _ [11, 12, 13, 52, 53, 54, 55, 56, 57, 58, 59, 60, 61, 62, 63, 64, 65, 66, 67, 68, 69, 70, 71, 72, 73, 74, 75, 76, 77, 78, 79, 80, 81, 82, 83, 84, 85, 86, 87, 88, 89] (by decide +kernel) (by decide +kernel)
set_option maxRecDepth 20000 in
theorem gX13_least_X13_refused : GoodIn wsX13_least (wsV RX13 55 RX13 yX13_refused wsX13_refused) := goodIn_app (goodIn_of _ (by decide +kernel)) ggX13_least_X13_refused
set_option maxRecDepth 20000 in
theorem ggX13_least_X13_in : GoodIn wsX13_least wsX13_in := goodIn_r _ [16] (by decide +kernel) (by decide +kernel)
set_option maxRecDepth 20000 in
theorem gX13_least_X13_in : GoodIn wsX13_least (va_wsS RX13 137 yX13_in wsX13_in) := goodIn_app (goodIn_of _ (by decide +kernel)) ggX13_least_X13_in
set_option maxRecDepth 20000 in
theorem ggX13_least_X13_leastBy : GoodIn wsX13_least wsX13_leastBy := goodIn_r _ [20, 21, 22, 23, 5, 24, 25, 26, 27, 28, 29, 30, 31, 32, 33, 34, 35, 36, 37, 38, 39, 40, 41, 42, 43, 44, 45, 46, 47, 52, 53, 54, 55, 56, 57, 58, 59, 60, 61, 62, 63, 64, 65, 66, 67, 68, 69, 70, 71, 72, 73, 74, 75, 76, 77, 78, 79, 80, 81, 82, 83, 84, 85, 86, 87, 88, 89] (by decide +kernel) (by decide +kernel)
set_option maxRecDepth 20000 in
theorem gX13_least_X13_leastBy : GoodIn wsX13_least (wsV RX13 369 RX13 yX13_leastBy wsX13_leastBy) := goodIn_app (goodIn_of _ (by decide +kernel)) ggX13_least_X13_leastBy
set_option maxRecDepth 20000 in
theorem ggX13_least_X13_good : GoodIn wsX13_least wsX13_good := goodIn_r _ [51, 12, 13, 52, 53, 54, 55, 56, 57, 58, 59, 60, 61, 62, 63, 64, 65, 66, 67, 68, 69, 70, 71, 72, 73, 74, 75, 76, 77, 78, 79, 80, 81, 82, 83, 84, 85, 86, 87, 88, 89] (by decide +kernel) (by decide +kernel)
set_option maxRecDepth 20000 in
theorem gX13_least_X13_good : GoodIn wsX13_least (wsV RX13 59 RX13 yX13_good wsX13_good) := goodIn_app (goodIn_of _ (by decide +kernel)) ggX13_least_X13_good
theorem dX13_least_0 : decode cX13_least 0 = .ok (.aload_n 0, 1) := by decide +kernel
theorem dX13_least_1 : decode cX13_least 1 = .ok (.iconst 0, 1) := by decide +kernel
theorem dX13_least_2 : decode cX13_least 2 = .ok (.putfield 49, 3) := by decide +kernel
theorem dX13_least_5 : decode cX13_least 5 = .ok (.aload_n 0, 1) := by decide +kernel
theorem dX13_least_6 : decode cX13_least 6 = .ok (.iload_n 1, 1) := by decide +kernel
theorem dX13_least_7 : decode cX13_least 7 = .ok (.invokevirtual 307, 3) := by decide +kernel
theorem dX13_least_10 : decode cX13_least 10 = .ok (.ifCond .ne 9, 3) := by decide +kernel
theorem dX13_least_13 : decode cX13_least 13 = .ok (.aload_n 0, 1) := by decide +kernel
theorem dX13_least_14 : decode cX13_least 14 = .ok (.iconst 1, 1) := by decide +kernel
theorem dX13_least_15 : decode cX13_least 15 = .ok (.invokevirtual 55, 3) := by decide +kernel
theorem dX13_least_18 : decode cX13_least 18 = .ok (.ireturn, 1) := by decide +kernel
theorem dX13_least_19 : decode cX13_least 19 = .ok (.iload_n 2, 1) := by decide +kernel
theorem dX13_least_20 : decode cX13_least 20 = .ok (.iconst 0, 1) := by decide +kernel
theorem dX13_least_21 : decode cX13_least 21 = .ok (.iconst 3, 1) := by decide +kernel
theorem dX13_least_22 : decode cX13_least 22 = .ok (.invokestatic 137, 3) := by decide +kernel
theorem dX13_least_25 : decode cX13_least 25 = .ok (.ifCond .ne 9, 3) := by decide +kernel
theorem dX13_least_28 : decode cX13_least 28 = .ok (.aload_n 0, 1) := by decide +kernel
theorem dX13_least_29 : decode cX13_least 29 = .ok (.iconst 2, 1) := by decide +kernel
theorem dX13_least_30 : decode cX13_least 30 = .ok (.invokevirtual 55, 3) := by decide +kernel
theorem dX13_least_33 : decode cX13_least 33 = .ok (.ireturn, 1) := by decide +kernel
theorem dX13_least_34 : decode cX13_least 34 = .ok (.aload_n 0, 1) := by decide +kernel
theorem dX13_least_35 : decode cX13_least 35 = .ok (.aload_n 0, 1) := by decide +kernel
theorem dX13_least_36 : decode cX13_least 36 = .ok (.iload_n 1, 1) := by decide +kernel
theorem dX13_least_37 : decode cX13_least 37 = .ok (.iload_n 2, 1) := by decide +kernel
theorem dX13_least_38 : decode cX13_least 38 = .ok (.invokevirtual 369, 3) := by decide +kernel
theorem dX13_least_41 : decode cX13_least 41 = .ok (.invokevirtual 59, 3) := by decide +kernel
theorem dX13_least_44 : decode cX13_least 44 = .ok (.ireturn, 1) := by decide +kernel
set_option maxRecDepth 20000 in
theorem ggX13_manyAlike_X13_isStack : GoodIn wsX13_manyAlike wsX13_isStack := goodIn_r _ [6, 7, 52, 53, 54, 55, 56, 57, 58, 59, 60, 61, 62, 63, 64, 65, 66, 67, 68, 69, 70, 71, 72, 73, 74, 75, 76, 77, 78, 79, 80, 81, 82, 83, 84, 85, 86, 87, 88, 89, 90, 91, 92, 93, 94, 95, 96, 97, 98, 99, 100, 101, 102, 103, 104, 105] (by decide +kernel) (by decide +kernel)
set_option maxRecDepth 20000 in
theorem gX13_manyAlike_X13_isStack : GoodIn wsX13_manyAlike (wsV RX13 307 RX13 yX13_isStack wsX13_isStack) := goodIn_app (goodIn_of _ (by decide +kernel)) ggX13_manyAlike_X13_isStack
set_option maxRecDepth 20000 in
theorem ggX13_manyAlike_X13_refused : GoodIn wsX13_manyAlike wsX13_refused := goodIn_r _ [11, 12, 13, 52, 53, 54, 55, 56, 57, 58, 59, 60, 61, 62, 63, 64, 65, 66, 67, 68, 69, 70, 71, 72, 73, 74, 75, 76, 77, 78, 79, 80, 81, 82, 83, 84, 85, 86, 87, 88, 89] (by decide +kernel) (by decide +kernel)
set_option maxRecDepth 20000 in
theorem gX13_manyAlike_X13_refused : GoodIn wsX13_manyAlike (wsV RX13 55 RX13 yX13_refused wsX13_refused) := goodIn_app (goodIn_of _ (by decide +kernel)) ggX13_manyAlike_X13_refused
set_option maxRecDepth 20000 in
theorem ggX13_manyAlike_X13_in : GoodIn wsX13_manyAlike wsX13_in := goodIn_r _ [16] (by decide +kernel) (by decide +kernel)
set_option maxRecDepth 20000 in
theorem gX13_manyAlike_X13_in : GoodIn wsX13_manyAlike (va_wsS RX13 137 yX13_in wsX13_in) := goodIn_app (goodIn_of _ (by decide +kernel)) ggX13_manyAlike_X13_in
set_option maxRecDepth 20000 in
theorem ggX13_manyAlike_X13_steps : GoodIn wsX13_manyAlike wsX13_steps := goodIn_r _ [20, 21, 52, 53, 54, 55, 56, 57, 58, 59, 60, 61, 62, 63, 64, 65, 66, 67, 68, 69, 70, 71, 72, 73, 74, 75, 76, 77, 78, 79, 80, 81, 82, 83, 84, 85, 86, 87, 88, 89] (by decide +kernel) (by decide +kernel)
set_option maxRecDepth 20000 in
theorem gX13_manyAlike_X13_steps : GoodIn wsX13_manyAlike (wsV RX13 310 RX13 yX13_steps wsX13_steps) := goodIn_app (goodIn_of _ (by decide +kernel)) ggX13_manyAlike_X13_steps
set_option maxRecDepth 20000 in
theorem ggX13_manyAlike_X13_all : GoodIn wsX13_manyAlike wsX13_all := goodIn_r _ [24] (by decide +kernel) (by decide +kernel)
set_option maxRecDepth 20000 in
theorem gX13_manyAlike_X13_all : GoodIn wsX13_manyAlike (va_wsS RX13 285 yX13_all wsX13_all) := goodIn_app (goodIn_of _ (by decide +kernel)) ggX13_manyAlike_X13_all
set_option maxRecDepth 20000 in
theorem ggX13_manyAlike_X13_leastAlike : GoodIn wsX13_manyAlike wsX13_leastAlike := goodIn_r _ [27, 28, 29, 5, 30, 31, 32, 33, 22, 23, 24, 34, 35, 36, 37, 38, 39] (by decide +kernel) (by decide +kernel)
set_option maxRecDepth 20000 in
theorem gX13_manyAlike_X13_leastAlike : GoodIn wsX13_manyAlike (va_wsS RX13 366 yX13_leastAlike wsX13_leastAlike) := goodIn_app (goodIn_of _ (by decide +kernel)) ggX13_manyAlike_X13_leastAlike
set_option maxRecDepth 20000 in
theorem ggX13_manyAlike_X13_leastBy : GoodIn wsX13_manyAlike wsX13_leastBy := goodIn_r _ [43, 44, 45, 46, 5, 47, 21, 17, 18, 19, 20, 25, 26, 27, 28, 29, 30, 31, 32, 33, 22, 23, 24, 34, 35, 36, 37, 38, 39, 52, 53, 54, 55, 56, 57, 58, 59, 60, 61, 62, 63, 64, 65, 66, 67, 68, 69, 70, 71, 72, 73, 74, 75, 76, 77, 78, 79, 80, 81, 82, 83, 84, 85, 86, 87, 88, 89] (by decide +kernel) (by decide +kernel)
set_option maxRecDepth 20000 in
theorem gX13_manyAlike_X13_leastBy : GoodIn wsX13_manyAlike (wsV RX13 369 RX13 yX13_leastBy wsX13_leastBy) := goodIn_app (goodIn_of _ (by decide +kernel)) ggX13_manyAlike_X13_leastBy
set_option maxRecDepth 20000 in
theorem ggX13_manyAlike_X13_good : GoodIn wsX13_manyAlike wsX13_good := goodIn_r _ [51, 12, 13, 52, 53, 54, 55, 56, 57, 58, 59, 60, 61, 62, 63, 64, 65, 66, 67, 68, 69, 70, 71, 72, 73, 74, 75, 76, 77, 78, 79, 80, 81, 82, 83, 84, 85, 86, 87, 88, 89] (by decide +kernel) (by decide +kernel)
set_option maxRecDepth 20000 in
theorem gX13_manyAlike_X13_good : GoodIn wsX13_manyAlike (wsV RX13 59 RX13 yX13_good wsX13_good) := goodIn_app (goodIn_of _ (by decide +kernel)) ggX13_manyAlike_X13_good
theorem dX13_manyAlike_0 : decode cX13_manyAlike 0 = .ok (.aload_n 0, 1) := by decide +kernel
theorem dX13_manyAlike_1 : decode cX13_manyAlike 1 = .ok (.iconst 0, 1) := by decide +kernel
theorem dX13_manyAlike_2 : decode cX13_manyAlike 2 = .ok (.putfield 49, 3) := by decide +kernel
theorem dX13_manyAlike_5 : decode cX13_manyAlike 5 = .ok (.aload_n 0, 1) := by decide +kernel
theorem dX13_manyAlike_6 : decode cX13_manyAlike 6 = .ok (.iload_n 1, 1) := by decide +kernel
theorem dX13_manyAlike_7 : decode cX13_manyAlike 7 = .ok (.invokevirtual 307, 3) := by decide +kernel
theorem dX13_manyAlike_10 : decode cX13_manyAlike 10 = .ok (.ifCond .ne 9, 3) := by decide +kernel
theorem dX13_manyAlike_13 : decode cX13_manyAlike 13 = .ok (.aload_n 0, 1) := by decide +kernel
theorem dX13_manyAlike_14 : decode cX13_manyAlike 14 = .ok (.iconst 1, 1) := by decide +kernel
theorem dX13_manyAlike_15 : decode cX13_manyAlike 15 = .ok (.invokevirtual 55, 3) := by decide +kernel
theorem dX13_manyAlike_18 : decode cX13_manyAlike 18 = .ok (.ireturn, 1) := by decide +kernel
theorem dX13_manyAlike_19 : decode cX13_manyAlike 19 = .ok (.iload_n 2, 1) := by decide +kernel
theorem dX13_manyAlike_20 : decode cX13_manyAlike 20 = .ok (.iconst 0, 1) := by decide +kernel
theorem dX13_manyAlike_21 : decode cX13_manyAlike 21 = .ok (.iconst 3, 1) := by decide +kernel
theorem dX13_manyAlike_22 : decode cX13_manyAlike 22 = .ok (.invokestatic 137, 3) := by decide +kernel
theorem dX13_manyAlike_25 : decode cX13_manyAlike 25 = .ok (.ifCond .ne 9, 3) := by decide +kernel
theorem dX13_manyAlike_28 : decode cX13_manyAlike 28 = .ok (.aload_n 0, 1) := by decide +kernel
theorem dX13_manyAlike_29 : decode cX13_manyAlike 29 = .ok (.iconst 2, 1) := by decide +kernel
theorem dX13_manyAlike_30 : decode cX13_manyAlike 30 = .ok (.invokevirtual 55, 3) := by decide +kernel
theorem dX13_manyAlike_33 : decode cX13_manyAlike 33 = .ok (.ireturn, 1) := by decide +kernel
theorem dX13_manyAlike_34 : decode cX13_manyAlike 34 = .ok (.iconst 0, 1) := by decide +kernel
theorem dX13_manyAlike_35 : decode cX13_manyAlike 35 = .ok (.istore_n 3, 1) := by decide +kernel
theorem dX13_manyAlike_36 : decode cX13_manyAlike 36 = .ok (.iconst 0, 1) := by decide +kernel
theorem dX13_manyAlike_37 : decode cX13_manyAlike 37 = .ok (.istore 4, 2) := by decide +kernel
theorem dX13_manyAlike_39 : decode cX13_manyAlike 39 = .ok (.iload 4, 2) := by decide +kernel
theorem dX13_manyAlike_41 : decode cX13_manyAlike 41 = .ok (.aload_n 0, 1) := by decide +kernel
theorem dX13_manyAlike_42 : decode cX13_manyAlike 42 = .ok (.iload_n 1, 1) := by decide +kernel
theorem dX13_manyAlike_43 : decode cX13_manyAlike 43 = .ok (.invokevirtual 310, 3) := by decide +kernel
theorem dX13_manyAlike_46 : decode cX13_manyAlike 46 = .ok (.invokestatic 285, 3) := by decide +kernel
theorem dX13_manyAlike_49 : decode cX13_manyAlike 49 = .ok (.if_icmp .gt 37, 3) := by decide +kernel
theorem dX13_manyAlike_52 : decode cX13_manyAlike 52 = .ok (.iload_n 3, 1) := by decide +kernel
theorem dX13_manyAlike_53 : decode cX13_manyAlike 53 = .ok (.iload 4, 2) := by decide +kernel
theorem dX13_manyAlike_55 : decode cX13_manyAlike 55 = .ok (.aload_n 0, 1) := by decide +kernel
theorem dX13_manyAlike_56 : decode cX13_manyAlike 56 = .ok (.iload_n 1, 1) := by decide +kernel
theorem dX13_manyAlike_57 : decode cX13_manyAlike 57 = .ok (.invokevirtual 310, 3) := by decide +kernel
theorem dX13_manyAlike_60 : decode cX13_manyAlike 60 = .ok (.iload_n 2, 1) := by decide +kernel
theorem dX13_manyAlike_61 : decode cX13_manyAlike 61 = .ok (.invokestatic 366, 3) := by decide +kernel
theorem dX13_manyAlike_64 : decode cX13_manyAlike 64 = .ok (.aload_n 0, 1) := by decide +kernel
theorem dX13_manyAlike_65 : decode cX13_manyAlike 65 = .ok (.iload_n 1, 1) := by decide +kernel
theorem dX13_manyAlike_66 : decode cX13_manyAlike 66 = .ok (.iload_n 2, 1) := by decide +kernel
theorem dX13_manyAlike_67 : decode cX13_manyAlike 67 = .ok (.invokevirtual 369, 3) := by decide +kernel
theorem dX13_manyAlike_70 : decode cX13_manyAlike 70 = .ok (.if_icmp .ne 7, 3) := by decide +kernel
theorem dX13_manyAlike_73 : decode cX13_manyAlike 73 = .ok (.iconst 1, 1) := by decide +kernel
theorem dX13_manyAlike_74 : decode cX13_manyAlike 74 = .ok (.goto 4, 3) := by decide +kernel
theorem dX13_manyAlike_77 : decode cX13_manyAlike 77 = .ok (.iconst 0, 1) := by decide +kernel
theorem dX13_manyAlike_78 : decode cX13_manyAlike 78 = .ok (.iadd, 1) := by decide +kernel
theorem dX13_manyAlike_79 : decode cX13_manyAlike 79 = .ok (.istore_n 3, 1) := by decide +kernel
theorem dX13_manyAlike_80 : decode cX13_manyAlike 80 = .ok (.iinc 4 1, 3) := by decide +kernel
theorem dX13_manyAlike_83 : decode cX13_manyAlike 83 = .ok (.goto (-44), 3) := by decide +kernel
theorem dX13_manyAlike_86 : decode cX13_manyAlike 86 = .ok (.aload_n 0, 1) := by decide +kernel
theorem dX13_manyAlike_87 : decode cX13_manyAlike 87 = .ok (.iload_n 3, 1) := by decide +kernel
theorem dX13_manyAlike_88 : decode cX13_manyAlike 88 = .ok (.invokevirtual 59, 3) := by decide +kernel
theorem dX13_manyAlike_91 : decode cX13_manyAlike 91 = .ok (.ireturn, 1) := by decide +kernel
set_option maxRecDepth 20000 in
theorem ggX13_slips_X13_isStack : GoodIn wsX13_slips wsX13_isStack := goodIn_r _ [7, 8, 49, 50, 51, 52, 53, 54, 55, 56, 57, 58, 59, 60, 61, 62, 63, 64, 65, 66, 67, 68, 69, 70, 71, 72, 73, 74, 75, 76, 77, 78, 79, 80, 81, 82, 83, 84, 85, 86, 87, 88, 89, 90, 91, 92, 93, 94, 95, 96, 97, 98, 99, 100, 101, 102] (by decide +kernel) (by decide +kernel)
set_option maxRecDepth 20000 in
theorem gX13_slips_X13_isStack : GoodIn wsX13_slips (wsV RX13 307 RX13 yX13_isStack wsX13_isStack) := goodIn_app (goodIn_of _ (by decide +kernel)) ggX13_slips_X13_isStack
set_option maxRecDepth 20000 in
theorem ggX13_slips_X13_refused : GoodIn wsX13_slips wsX13_refused := goodIn_r _ [12, 13, 14, 49, 50, 51, 52, 53, 54, 55, 56, 57, 58, 59, 60, 61, 62, 63, 64, 65, 66, 67, 68, 69, 70, 71, 72, 73, 74, 75, 76, 77, 78, 79, 80, 81, 82, 83, 84, 85, 86] (by decide +kernel) (by decide +kernel)
set_option maxRecDepth 20000 in
theorem gX13_slips_X13_refused : GoodIn wsX13_slips (wsV RX13 55 RX13 yX13_refused wsX13_refused) := goodIn_app (goodIn_of _ (by decide +kernel)) ggX13_slips_X13_refused
set_option maxRecDepth 20000 in
theorem ggX13_slips_X13_in : GoodIn wsX13_slips wsX13_in := goodIn_r _ [17] (by decide +kernel) (by decide +kernel)
set_option maxRecDepth 20000 in
theorem gX13_slips_X13_in : GoodIn wsX13_slips (va_wsS RX13 137 yX13_in wsX13_in) := goodIn_app (goodIn_of _ (by decide +kernel)) ggX13_slips_X13_in
set_option maxRecDepth 20000 in
theorem ggX13_slips_X13_steps : GoodIn wsX13_slips wsX13_steps := goodIn_r _ [21, 22, 49, 50, 51, 52, 53, 54, 55, 56, 57, 58, 59, 60, 61, 62, 63, 64, 65, 66, 67, 68, 69, 70, 71, 72, 73, 74, 75, 76, 77, 78, 79, 80, 81, 82, 83, 84, 85, 86] (by decide +kernel) (by decide +kernel)
set_option maxRecDepth 20000 in
theorem gX13_slips_X13_steps : GoodIn wsX13_slips (wsV RX13 310 RX13 yX13_steps wsX13_steps) := goodIn_app (goodIn_of _ (by decide +kernel)) ggX13_slips_X13_steps
set_option maxRecDepth 20000 in
theorem ggX13_slips_X13_good : GoodIn wsX13_slips wsX13_good := goodIn_r _ [26, 13, 14, 49, 50, 51, 52, 53, 54, 55, 56, 57, 58, 59, 60, 61, 62, 63, 64, 65, 66, 67, 68, 69, 70, 71, 72, 73, 74, 75, 76, 77, 78, 79, 80, 81, 82, 83, 84, 85, 86] (by decide +kernel) (by decide +kernel)
set_option maxRecDepth 20000 in
theorem gX13_slips_X13_good : GoodIn wsX13_slips (wsV RX13 59 RX13 yX13_good wsX13_good) := goodIn_app (goodIn_of _ (by decide +kernel)) ggX13_slips_X13_good
set_option maxRecDepth 20000 in
theorem ggX13_slips_X13_isLook : GoodIn wsX13_slips wsX13_isLook := goodIn_r _ [29] (by decide +kernel) (by decide +kernel)
set_option maxRecDepth 20000 in
theorem gX13_slips_X13_isLook : GoodIn wsX13_slips (va_wsS RX13 360 yX13_isLook wsX13_isLook) := goodIn_app (goodIn_of _ (by decide +kernel)) ggX13_slips_X13_isLook
set_option maxRecDepth 20000 in
theorem ggX13_slips_X13_row : GoodIn wsX13_slips wsX13_row := goodIn_r _ [33, 22, 49, 50, 51, 52, 53, 54, 55, 56, 57, 58, 59, 60, 61, 62, 63, 64, 65, 66, 67, 68, 69, 70, 71, 72, 73, 74, 75, 76, 77, 78, 79, 80, 81, 82, 83, 84, 85, 86] (by decide +kernel) (by decide +kernel)
set_option maxRecDepth 20000 in
theorem gX13_slips_X13_row : GoodIn wsX13_slips (wsV RX13 312 RX13 yX13_row wsX13_row) := goodIn_app (goodIn_of _ (by decide +kernel)) ggX13_slips_X13_row
set_option maxRecDepth 20000 in
theorem ggX13_slips_X13_looked : GoodIn wsX13_slips wsX13_looked := goodIn_r _ [36, 37, 38, 6, 39, 40, 41, 42] (by decide +kernel) (by decide +kernel)
set_option maxRecDepth 20000 in
theorem gX13_slips_X13_looked : GoodIn wsX13_slips (va_wsS RX13 363 yX13_looked wsX13_looked) := goodIn_app (goodIn_of _ (by decide +kernel)) ggX13_slips_X13_looked
set_option maxRecDepth 20000 in
theorem ggX13_slips_X13_bits : GoodIn wsX13_slips wsX13_bits := goodIn_r _ [45] (by decide +kernel) (by decide +kernel)
set_option maxRecDepth 20000 in
theorem gX13_slips_X13_bits : GoodIn wsX13_slips (va_wsS RX13 279 yX13_bits wsX13_bits) := goodIn_app (goodIn_of _ (by decide +kernel)) ggX13_slips_X13_bits
set_option maxRecDepth 20000 in
theorem ggX13_slips_X13_turned : GoodIn wsX13_slips wsX13_turned := goodIn_r _ [48, 37, 38, 6, 39] (by decide +kernel) (by decide +kernel)
set_option maxRecDepth 20000 in
theorem gX13_slips_X13_turned : GoodIn wsX13_slips (va_wsS RX13 301 yX13_turned wsX13_turned) := goodIn_app (goodIn_of _ (by decide +kernel)) ggX13_slips_X13_turned
theorem dX13_slips_0 : decode cX13_slips 0 = .ok (.aload_n 0, 1) := by decide +kernel
theorem dX13_slips_1 : decode cX13_slips 1 = .ok (.iconst 0, 1) := by decide +kernel
theorem dX13_slips_2 : decode cX13_slips 2 = .ok (.putfield 49, 3) := by decide +kernel
theorem dX13_slips_5 : decode cX13_slips 5 = .ok (.aload_n 0, 1) := by decide +kernel
theorem dX13_slips_6 : decode cX13_slips 6 = .ok (.iload_n 1, 1) := by decide +kernel
theorem dX13_slips_7 : decode cX13_slips 7 = .ok (.invokevirtual 307, 3) := by decide +kernel
theorem dX13_slips_10 : decode cX13_slips 10 = .ok (.ifCond .eq 11, 3) := by decide +kernel
theorem dX13_slips_13 : decode cX13_slips 13 = .ok (.aload_n 0, 1) := by decide +kernel
theorem dX13_slips_14 : decode cX13_slips 14 = .ok (.iload_n 2, 1) := by decide +kernel
theorem dX13_slips_15 : decode cX13_slips 15 = .ok (.invokevirtual 307, 3) := by decide +kernel
theorem dX13_slips_18 : decode cX13_slips 18 = .ok (.ifCond .ne 9, 3) := by decide +kernel
theorem dX13_slips_21 : decode cX13_slips 21 = .ok (.aload_n 0, 1) := by decide +kernel
theorem dX13_slips_22 : decode cX13_slips 22 = .ok (.iconst 1, 1) := by decide +kernel
theorem dX13_slips_23 : decode cX13_slips 23 = .ok (.invokevirtual 55, 3) := by decide +kernel
theorem dX13_slips_26 : decode cX13_slips 26 = .ok (.ireturn, 1) := by decide +kernel
theorem dX13_slips_27 : decode cX13_slips 27 = .ok (.iload_n 3, 1) := by decide +kernel
theorem dX13_slips_28 : decode cX13_slips 28 = .ok (.iconst 0, 1) := by decide +kernel
theorem dX13_slips_29 : decode cX13_slips 29 = .ok (.iconst 3, 1) := by decide +kernel
theorem dX13_slips_30 : decode cX13_slips 30 = .ok (.invokestatic 137, 3) := by decide +kernel
theorem dX13_slips_33 : decode cX13_slips 33 = .ok (.ifCond .ne 9, 3) := by decide +kernel
theorem dX13_slips_36 : decode cX13_slips 36 = .ok (.aload_n 0, 1) := by decide +kernel
theorem dX13_slips_37 : decode cX13_slips 37 = .ok (.iconst 2, 1) := by decide +kernel
theorem dX13_slips_38 : decode cX13_slips 38 = .ok (.invokevirtual 55, 3) := by decide +kernel
theorem dX13_slips_41 : decode cX13_slips 41 = .ok (.ireturn, 1) := by decide +kernel
theorem dX13_slips_42 : decode cX13_slips 42 = .ok (.aload_n 0, 1) := by decide +kernel
theorem dX13_slips_43 : decode cX13_slips 43 = .ok (.iload_n 1, 1) := by decide +kernel
theorem dX13_slips_44 : decode cX13_slips 44 = .ok (.invokevirtual 310, 3) := by decide +kernel
theorem dX13_slips_47 : decode cX13_slips 47 = .ok (.aload_n 0, 1) := by decide +kernel
theorem dX13_slips_48 : decode cX13_slips 48 = .ok (.iload_n 2, 1) := by decide +kernel
theorem dX13_slips_49 : decode cX13_slips 49 = .ok (.invokevirtual 310, 3) := by decide +kernel
theorem dX13_slips_52 : decode cX13_slips 52 = .ok (.if_icmp .eq 10, 3) := by decide +kernel
theorem dX13_slips_55 : decode cX13_slips 55 = .ok (.aload_n 0, 1) := by decide +kernel
theorem dX13_slips_56 : decode cX13_slips 56 = .ok (.bipush (-2), 2) := by decide +kernel
theorem dX13_slips_58 : decode cX13_slips 58 = .ok (.invokevirtual 59, 3) := by decide +kernel
theorem dX13_slips_61 : decode cX13_slips 61 = .ok (.ireturn, 1) := by decide +kernel
theorem dX13_slips_62 : decode cX13_slips 62 = .ok (.aload_n 0, 1) := by decide +kernel
theorem dX13_slips_63 : decode cX13_slips 63 = .ok (.iload_n 1, 1) := by decide +kernel
theorem dX13_slips_64 : decode cX13_slips 64 = .ok (.invokevirtual 310, 3) := by decide +kernel
theorem dX13_slips_67 : decode cX13_slips 67 = .ok (.istore 4, 2) := by decide +kernel
theorem dX13_slips_69 : decode cX13_slips 69 = .ok (.ldc_w 344, 3) := by decide +kernel
theorem dX13_slips_72 : decode cX13_slips 72 = .ok (.istore 5, 2) := by decide +kernel
theorem dX13_slips_74 : decode cX13_slips 74 = .ok (.iconst 0, 1) := by decide +kernel
theorem dX13_slips_75 : decode cX13_slips 75 = .ok (.istore 6, 2) := by decide +kernel
theorem dX13_slips_77 : decode cX13_slips 77 = .ok (.iload 6, 2) := by decide +kernel
theorem dX13_slips_79 : decode cX13_slips 79 = .ok (.iconst 4, 1) := by decide +kernel
theorem dX13_slips_80 : decode cX13_slips 80 = .ok (.if_icmp .ge 89, 3) := by decide +kernel
theorem dX13_slips_83 : decode cX13_slips 83 = .ok (.iload 6, 2) := by decide +kernel
theorem dX13_slips_85 : decode cX13_slips 85 = .ok (.iload_n 3, 1) := by decide +kernel
theorem dX13_slips_86 : decode cX13_slips 86 = .ok (.invokestatic 360, 3) := by decide +kernel
theorem dX13_slips_89 : decode cX13_slips 89 = .ok (.ifCond .ne 6, 3) := by decide +kernel
theorem dX13_slips_92 : decode cX13_slips 92 = .ok (.goto 71, 3) := by decide +kernel
theorem dX13_slips_95 : decode cX13_slips 95 = .ok (.aload_n 0, 1) := by decide +kernel
theorem dX13_slips_96 : decode cX13_slips 96 = .ok (.iload_n 2, 1) := by decide +kernel
theorem dX13_slips_97 : decode cX13_slips 97 = .ok (.invokevirtual 312, 3) := by decide +kernel
theorem dX13_slips_100 : decode cX13_slips 100 = .ok (.iload 4, 2) := by decide +kernel
theorem dX13_slips_102 : decode cX13_slips 102 = .ok (.iload 6, 2) := by decide +kernel
theorem dX13_slips_104 : decode cX13_slips 104 = .ok (.invokestatic 363, 3) := by decide +kernel
theorem dX13_slips_107 : decode cX13_slips 107 = .ok (.istore 7, 2) := by decide +kernel
theorem dX13_slips_109 : decode cX13_slips 109 = .ok (.iconst 0, 1) := by decide +kernel
theorem dX13_slips_110 : decode cX13_slips 110 = .ok (.istore 8, 2) := by decide +kernel
theorem dX13_slips_112 : decode cX13_slips 112 = .ok (.iload 8, 2) := by decide +kernel
theorem dX13_slips_114 : decode cX13_slips 114 = .ok (.iload 4, 2) := by decide +kernel
theorem dX13_slips_116 : decode cX13_slips 116 = .ok (.if_icmp .ge 47, 3) := by decide +kernel
theorem dX13_slips_119 : decode cX13_slips 119 = .ok (.iload 7, 2) := by decide +kernel
theorem dX13_slips_121 : decode cX13_slips 121 = .ok (.aload_n 0, 1) := by decide +kernel
theorem dX13_slips_122 : decode cX13_slips 122 = .ok (.iload_n 1, 1) := by decide +kernel
theorem dX13_slips_123 : decode cX13_slips 123 = .ok (.invokevirtual 312, 3) := by decide +kernel
theorem dX13_slips_126 : decode cX13_slips 126 = .ok (.ixor, 1) := by decide +kernel
theorem dX13_slips_127 : decode cX13_slips 127 = .ok (.invokestatic 279, 3) := by decide +kernel
theorem dX13_slips_130 : decode cX13_slips 130 = .ok (.iload 5, 2) := by decide +kernel
theorem dX13_slips_132 : decode cX13_slips 132 = .ok (.if_icmp .ge 16, 3) := by decide +kernel
theorem dX13_slips_135 : decode cX13_slips 135 = .ok (.iload 7, 2) := by decide +kernel
theorem dX13_slips_137 : decode cX13_slips 137 = .ok (.aload_n 0, 1) := by decide +kernel
theorem dX13_slips_138 : decode cX13_slips 138 = .ok (.iload_n 1, 1) := by decide +kernel
theorem dX13_slips_139 : decode cX13_slips 139 = .ok (.invokevirtual 312, 3) := by decide +kernel
theorem dX13_slips_142 : decode cX13_slips 142 = .ok (.ixor, 1) := by decide +kernel
theorem dX13_slips_143 : decode cX13_slips 143 = .ok (.invokestatic 279, 3) := by decide +kernel
theorem dX13_slips_146 : decode cX13_slips 146 = .ok (.istore 5, 2) := by decide +kernel
theorem dX13_slips_148 : decode cX13_slips 148 = .ok (.iload 7, 2) := by decide +kernel
theorem dX13_slips_150 : decode cX13_slips 150 = .ok (.iload 4, 2) := by decide +kernel
theorem dX13_slips_152 : decode cX13_slips 152 = .ok (.invokestatic 301, 3) := by decide +kernel
theorem dX13_slips_155 : decode cX13_slips 155 = .ok (.istore 7, 2) := by decide +kernel
theorem dX13_slips_157 : decode cX13_slips 157 = .ok (.iinc 8 1, 3) := by decide +kernel
theorem dX13_slips_160 : decode cX13_slips 160 = .ok (.goto (-48), 3) := by decide +kernel
theorem dX13_slips_163 : decode cX13_slips 163 = .ok (.iinc 6 1, 3) := by decide +kernel
theorem dX13_slips_166 : decode cX13_slips 166 = .ok (.goto (-89), 3) := by decide +kernel
theorem dX13_slips_169 : decode cX13_slips 169 = .ok (.aload_n 0, 1) := by decide +kernel
theorem dX13_slips_170 : decode cX13_slips 170 = .ok (.iload 5, 2) := by decide +kernel
theorem dX13_slips_172 : decode cX13_slips 172 = .ok (.invokevirtual 59, 3) := by decide +kernel
theorem dX13_slips_175 : decode cX13_slips 175 = .ok (.ireturn, 1) := by decide +kernel
theorem dX13_slipped_0 : decode cX13_slipped 0 = .ok (.iload_n 0, 1) := by decide +kernel
theorem dX13_slipped_1 : decode cX13_slipped 1 = .ok (.iconst 1, 1) := by decide +kernel
theorem dX13_slipped_2 : decode cX13_slipped 2 = .ok (.iload_n 1, 1) := by decide +kernel
theorem dX13_slipped_3 : decode cX13_slipped 3 = .ok (.iconst 1, 1) := by decide +kernel
theorem dX13_slipped_4 : decode cX13_slipped 4 = .ok (.isub, 1) := by decide +kernel
theorem dX13_slipped_5 : decode cX13_slipped 5 = .ok (.iload_n 2, 1) := by decide +kernel
theorem dX13_slipped_6 : decode cX13_slipped 6 = .ok (.isub, 1) := by decide +kernel
theorem dX13_slipped_7 : decode cX13_slipped 7 = .ok (.ishl, 1) := by decide +kernel
theorem dX13_slipped_8 : decode cX13_slipped 8 = .ok (.ixor, 1) := by decide +kernel
theorem dX13_slipped_9 : decode cX13_slipped 9 = .ok (.ireturn, 1) := by decide +kernel
set_option maxRecDepth 20000 in
theorem ggX13_weakestOf_X13_slipped : GoodIn wsX13_weakestOf wsX13_slipped := goodIn_r _ [4] (by decide +kernel) (by decide +kernel)
set_option maxRecDepth 20000 in
theorem gX13_weakestOf_X13_slipped : GoodIn wsX13_weakestOf (va_wsS RX13 372 yX13_slipped wsX13_slipped) := goodIn_app (goodIn_of _ (by decide +kernel)) ggX13_weakestOf_X13_slipped
set_option maxRecDepth 20000 in
theorem ggX13_weakestOf_X13_energyOf : GoodIn wsX13_weakestOf wsX13_energyOf := goodIn_r _ [8, 9, 10, 11, 3, 12, 13, 14, 15, 16, 17, 18, 19, 20, 21, 22, 23, 24, 25, 26, 27, 28, 29, 30, 31, 32, 33, 34, 35, 36, 37, 38, 39, 40, 41, 42, 43, 44, 45, 46, 47, 48, 49, 50, 51, 52, 53, 54, 55, 56, 57, 58, 59, 60, 61, 62, 63, 64, 65, 66] (by decide +kernel) (by decide +kernel)
set_option maxRecDepth 20000 in
theorem gX13_weakestOf_X13_energyOf : GoodIn wsX13_weakestOf (wsV RX13 330 RX13 yX13_energyOf wsX13_energyOf) := goodIn_app (goodIn_of _ (by decide +kernel)) ggX13_weakestOf_X13_energyOf
theorem dX13_weakestOf_0 : decode cX13_weakestOf 0 = .ok (.iconst 0, 1) := by decide +kernel
theorem dX13_weakestOf_1 : decode cX13_weakestOf 1 = .ok (.istore_n 3, 1) := by decide +kernel
theorem dX13_weakestOf_2 : decode cX13_weakestOf 2 = .ok (.iconst 1, 1) := by decide +kernel
theorem dX13_weakestOf_3 : decode cX13_weakestOf 3 = .ok (.istore 4, 2) := by decide +kernel
theorem dX13_weakestOf_5 : decode cX13_weakestOf 5 = .ok (.iload 4, 2) := by decide +kernel
theorem dX13_weakestOf_7 : decode cX13_weakestOf 7 = .ok (.iload_n 2, 1) := by decide +kernel
theorem dX13_weakestOf_8 : decode cX13_weakestOf 8 = .ok (.if_icmp .ge 38, 3) := by decide +kernel
theorem dX13_weakestOf_11 : decode cX13_weakestOf 11 = .ok (.aload_n 0, 1) := by decide +kernel
theorem dX13_weakestOf_12 : decode cX13_weakestOf 12 = .ok (.iload_n 1, 1) := by decide +kernel
theorem dX13_weakestOf_13 : decode cX13_weakestOf 13 = .ok (.iload_n 2, 1) := by decide +kernel
theorem dX13_weakestOf_14 : decode cX13_weakestOf 14 = .ok (.iload 4, 2) := by decide +kernel
theorem dX13_weakestOf_16 : decode cX13_weakestOf 16 = .ok (.invokestatic 372, 3) := by decide +kernel
theorem dX13_weakestOf_19 : decode cX13_weakestOf 19 = .ok (.iload_n 2, 1) := by decide +kernel
theorem dX13_weakestOf_20 : decode cX13_weakestOf 20 = .ok (.invokevirtual 330, 3) := by decide +kernel
theorem dX13_weakestOf_23 : decode cX13_weakestOf 23 = .ok (.aload_n 0, 1) := by decide +kernel
theorem dX13_weakestOf_24 : decode cX13_weakestOf 24 = .ok (.iload_n 1, 1) := by decide +kernel
theorem dX13_weakestOf_25 : decode cX13_weakestOf 25 = .ok (.iload_n 2, 1) := by decide +kernel
theorem dX13_weakestOf_26 : decode cX13_weakestOf 26 = .ok (.iload_n 3, 1) := by decide +kernel
theorem dX13_weakestOf_27 : decode cX13_weakestOf 27 = .ok (.invokestatic 372, 3) := by decide +kernel
theorem dX13_weakestOf_30 : decode cX13_weakestOf 30 = .ok (.iload_n 2, 1) := by decide +kernel
theorem dX13_weakestOf_31 : decode cX13_weakestOf 31 = .ok (.invokevirtual 330, 3) := by decide +kernel
theorem dX13_weakestOf_34 : decode cX13_weakestOf 34 = .ok (.if_icmp .ge 6, 3) := by decide +kernel
theorem dX13_weakestOf_37 : decode cX13_weakestOf 37 = .ok (.iload 4, 2) := by decide +kernel
theorem dX13_weakestOf_39 : decode cX13_weakestOf 39 = .ok (.istore_n 3, 1) := by decide +kernel
theorem dX13_weakestOf_40 : decode cX13_weakestOf 40 = .ok (.iinc 4 1, 3) := by decide +kernel
theorem dX13_weakestOf_43 : decode cX13_weakestOf 43 = .ok (.goto (-38), 3) := by decide +kernel
theorem dX13_weakestOf_46 : decode cX13_weakestOf 46 = .ok (.iload_n 3, 1) := by decide +kernel
theorem dX13_weakestOf_47 : decode cX13_weakestOf 47 = .ok (.ireturn, 1) := by decide +kernel
set_option maxRecDepth 20000 in
theorem ggX13_slipEnergy_X13_isStack : GoodIn wsX13_slipEnergy wsX13_isStack := goodIn_r _ [7, 8, 45, 46, 47, 48, 49, 50, 51, 52, 53, 54, 55, 56, 57, 58, 59, 60, 61, 62, 63, 64, 65, 66, 67, 68, 69, 70, 71, 72, 73, 74, 75, 76, 77, 78, 79, 80, 81, 82, 83, 84, 85, 86, 87, 88, 89, 90, 91, 92, 93, 94, 95, 96, 97, 98] (by decide +kernel) (by decide +kernel)
set_option maxRecDepth 20000 in
theorem gX13_slipEnergy_X13_isStack : GoodIn wsX13_slipEnergy (wsV RX13 307 RX13 yX13_isStack wsX13_isStack) := goodIn_app (goodIn_of _ (by decide +kernel)) ggX13_slipEnergy_X13_isStack
set_option maxRecDepth 20000 in
theorem ggX13_slipEnergy_X13_lost : GoodIn wsX13_slipEnergy wsX13_lost := goodIn_r _ [12, 13, 14, 15, 6, 16, 17, 18, 45, 46, 47, 48, 49, 50, 51, 52, 53, 54, 55, 56, 57, 58, 59, 60, 61, 62, 63, 64, 65, 66, 67, 68, 69, 70, 71, 72, 73, 74, 75, 76, 77, 78, 79, 80, 81, 82] (by decide +kernel) (by decide +kernel)
set_option maxRecDepth 20000 in
theorem gX13_slipEnergy_X13_lost : GoodIn wsX13_slipEnergy (wsV RX13 320 RX13 yX13_lost wsX13_lost) := goodIn_app (goodIn_of _ (by decide +kernel)) ggX13_slipEnergy_X13_lost
set_option maxRecDepth 20000 in
theorem ggX13_slipEnergy_X13_steps : GoodIn wsX13_slipEnergy wsX13_steps := goodIn_r _ [22, 23, 45, 46, 47, 48, 49, 50, 51, 52, 53, 54, 55, 56, 57, 58, 59, 60, 61, 62, 63, 64, 65, 66, 67, 68, 69, 70, 71, 72, 73, 74, 75, 76, 77, 78, 79, 80, 81, 82] (by decide +kernel) (by decide +kernel)
set_option maxRecDepth 20000 in
theorem gX13_slipEnergy_X13_steps : GoodIn wsX13_slipEnergy (wsV RX13 310 RX13 yX13_steps wsX13_steps) := goodIn_app (goodIn_of _ (by decide +kernel)) ggX13_slipEnergy_X13_steps
set_option maxRecDepth 20000 in
theorem ggX13_slipEnergy_X13_in : GoodIn wsX13_slipEnergy wsX13_in := goodIn_r _ [26] (by decide +kernel) (by decide +kernel)
set_option maxRecDepth 20000 in
theorem gX13_slipEnergy_X13_in : GoodIn wsX13_slipEnergy (va_wsS RX13 137 yX13_in wsX13_in) := goodIn_app (goodIn_of _ (by decide +kernel)) ggX13_slipEnergy_X13_in
set_option maxRecDepth 20000 in
theorem ggX13_slipEnergy_X13_row : GoodIn wsX13_slipEnergy wsX13_row := goodIn_r _ [30, 23, 45, 46, 47, 48, 49, 50, 51, 52, 53, 54, 55, 56, 57, 58, 59, 60, 61, 62, 63, 64, 65, 66, 67, 68, 69, 70, 71, 72, 73, 74, 75, 76, 77, 78, 79, 80, 81, 82] (by decide +kernel) (by decide +kernel)
set_option maxRecDepth 20000 in
theorem gX13_slipEnergy_X13_row : GoodIn wsX13_slipEnergy (wsV RX13 312 RX13 yX13_row wsX13_row) := goodIn_app (goodIn_of _ (by decide +kernel)) ggX13_slipEnergy_X13_row
set_option maxRecDepth 20000 in
theorem ggX13_slipEnergy_X13_slipped : GoodIn wsX13_slipEnergy wsX13_slipped := goodIn_r _ [33] (by decide +kernel) (by decide +kernel)
set_option maxRecDepth 20000 in
theorem gX13_slipEnergy_X13_slipped : GoodIn wsX13_slipEnergy (va_wsS RX13 372 yX13_slipped wsX13_slipped) := goodIn_app (goodIn_of _ (by decide +kernel)) ggX13_slipEnergy_X13_slipped
set_option maxRecDepth 20000 in
theorem ggX13_slipEnergy_X13_energyOf : GoodIn wsX13_slipEnergy wsX13_energyOf := goodIn_r _ [37, 8, 38, 39, 6, 40, 45, 46, 47, 48, 49, 50, 51, 52, 53, 54, 55, 56, 57, 58, 59, 60, 61, 62, 63, 64, 65, 66, 67, 68, 69, 70, 71, 72, 73, 74, 75, 76, 77, 78, 79, 80, 81, 82, 83, 84, 85, 86, 87, 88, 89, 90, 91, 92, 93, 94, 95, 96, 97, 98] (by decide +kernel) (by decide +kernel)
set_option maxRecDepth 20000 in
theorem gX13_slipEnergy_X13_energyOf : GoodIn wsX13_slipEnergy (wsV RX13 330 RX13 yX13_energyOf wsX13_energyOf) := goodIn_app (goodIn_of _ (by decide +kernel)) ggX13_slipEnergy_X13_energyOf
set_option maxRecDepth 20000 in
theorem ggX13_slipEnergy_X13_good : GoodIn wsX13_slipEnergy wsX13_good := goodIn_r _ [44, 17, 18, 45, 46, 47, 48, 49, 50, 51, 52, 53, 54, 55, 56, 57, 58, 59, 60, 61, 62, 63, 64, 65, 66, 67, 68, 69, 70, 71, 72, 73, 74, 75, 76, 77, 78, 79, 80, 81, 82] (by decide +kernel) (by decide +kernel)
set_option maxRecDepth 20000 in
theorem gX13_slipEnergy_X13_good : GoodIn wsX13_slipEnergy (wsV RX13 59 RX13 yX13_good wsX13_good) := goodIn_app (goodIn_of _ (by decide +kernel)) ggX13_slipEnergy_X13_good
theorem dX13_slipEnergy_0 : decode cX13_slipEnergy 0 = .ok (.aload_n 0, 1) := by decide +kernel
theorem dX13_slipEnergy_1 : decode cX13_slipEnergy 1 = .ok (.iconst 0, 1) := by decide +kernel
theorem dX13_slipEnergy_2 : decode cX13_slipEnergy 2 = .ok (.putfield 49, 3) := by decide +kernel
theorem dX13_slipEnergy_5 : decode cX13_slipEnergy 5 = .ok (.aload_n 0, 1) := by decide +kernel
theorem dX13_slipEnergy_6 : decode cX13_slipEnergy 6 = .ok (.iload_n 1, 1) := by decide +kernel
theorem dX13_slipEnergy_7 : decode cX13_slipEnergy 7 = .ok (.invokevirtual 307, 3) := by decide +kernel
theorem dX13_slipEnergy_10 : decode cX13_slipEnergy 10 = .ok (.ifCond .ne 12, 3) := by decide +kernel
theorem dX13_slipEnergy_13 : decode cX13_slipEnergy 13 = .ok (.aload_n 0, 1) := by decide +kernel
theorem dX13_slipEnergy_14 : decode cX13_slipEnergy 14 = .ok (.iconst 1, 1) := by decide +kernel
theorem dX13_slipEnergy_15 : decode cX13_slipEnergy 15 = .ok (.ldc_w 333, 3) := by decide +kernel
theorem dX13_slipEnergy_18 : decode cX13_slipEnergy 18 = .ok (.invokevirtual 320, 3) := by decide +kernel
theorem dX13_slipEnergy_21 : decode cX13_slipEnergy 21 = .ok (.ireturn, 1) := by decide +kernel
theorem dX13_slipEnergy_22 : decode cX13_slipEnergy 22 = .ok (.iload_n 2, 1) := by decide +kernel
theorem dX13_slipEnergy_23 : decode cX13_slipEnergy 23 = .ok (.iconst 0, 1) := by decide +kernel
theorem dX13_slipEnergy_24 : decode cX13_slipEnergy 24 = .ok (.aload_n 0, 1) := by decide +kernel
theorem dX13_slipEnergy_25 : decode cX13_slipEnergy 25 = .ok (.iload_n 1, 1) := by decide +kernel
theorem dX13_slipEnergy_26 : decode cX13_slipEnergy 26 = .ok (.invokevirtual 310, 3) := by decide +kernel
theorem dX13_slipEnergy_29 : decode cX13_slipEnergy 29 = .ok (.iconst 1, 1) := by decide +kernel
theorem dX13_slipEnergy_30 : decode cX13_slipEnergy 30 = .ok (.isub, 1) := by decide +kernel
theorem dX13_slipEnergy_31 : decode cX13_slipEnergy 31 = .ok (.invokestatic 137, 3) := by decide +kernel
theorem dX13_slipEnergy_34 : decode cX13_slipEnergy 34 = .ok (.ifCond .ne 12, 3) := by decide +kernel
theorem dX13_slipEnergy_37 : decode cX13_slipEnergy 37 = .ok (.aload_n 0, 1) := by decide +kernel
theorem dX13_slipEnergy_38 : decode cX13_slipEnergy 38 = .ok (.iconst 2, 1) := by decide +kernel
theorem dX13_slipEnergy_39 : decode cX13_slipEnergy 39 = .ok (.ldc_w 333, 3) := by decide +kernel
theorem dX13_slipEnergy_42 : decode cX13_slipEnergy 42 = .ok (.invokevirtual 320, 3) := by decide +kernel
theorem dX13_slipEnergy_45 : decode cX13_slipEnergy 45 = .ok (.ireturn, 1) := by decide +kernel
theorem dX13_slipEnergy_46 : decode cX13_slipEnergy 46 = .ok (.aload_n 0, 1) := by decide +kernel
theorem dX13_slipEnergy_47 : decode cX13_slipEnergy 47 = .ok (.aload_n 0, 1) := by decide +kernel
theorem dX13_slipEnergy_48 : decode cX13_slipEnergy 48 = .ok (.aload_n 0, 1) := by decide +kernel
theorem dX13_slipEnergy_49 : decode cX13_slipEnergy 49 = .ok (.iload_n 1, 1) := by decide +kernel
theorem dX13_slipEnergy_50 : decode cX13_slipEnergy 50 = .ok (.invokevirtual 312, 3) := by decide +kernel
theorem dX13_slipEnergy_53 : decode cX13_slipEnergy 53 = .ok (.aload_n 0, 1) := by decide +kernel
theorem dX13_slipEnergy_54 : decode cX13_slipEnergy 54 = .ok (.iload_n 1, 1) := by decide +kernel
theorem dX13_slipEnergy_55 : decode cX13_slipEnergy 55 = .ok (.invokevirtual 310, 3) := by decide +kernel
theorem dX13_slipEnergy_58 : decode cX13_slipEnergy 58 = .ok (.iload_n 2, 1) := by decide +kernel
theorem dX13_slipEnergy_59 : decode cX13_slipEnergy 59 = .ok (.invokestatic 372, 3) := by decide +kernel
theorem dX13_slipEnergy_62 : decode cX13_slipEnergy 62 = .ok (.aload_n 0, 1) := by decide +kernel
theorem dX13_slipEnergy_63 : decode cX13_slipEnergy 63 = .ok (.iload_n 1, 1) := by decide +kernel
theorem dX13_slipEnergy_64 : decode cX13_slipEnergy 64 = .ok (.invokevirtual 310, 3) := by decide +kernel
theorem dX13_slipEnergy_67 : decode cX13_slipEnergy 67 = .ok (.invokevirtual 330, 3) := by decide +kernel
theorem dX13_slipEnergy_70 : decode cX13_slipEnergy 70 = .ok (.invokevirtual 59, 3) := by decide +kernel
theorem dX13_slipEnergy_73 : decode cX13_slipEnergy 73 = .ok (.ireturn, 1) := by decide +kernel
set_option maxRecDepth 20000 in
theorem ggX13_weakest_X13_isStack : GoodIn wsX13_weakest wsX13_isStack := goodIn_r _ [6, 7, 41, 42, 43, 44, 45, 46, 47, 48, 49, 50, 51, 52, 53, 54, 55, 56, 57, 58, 59, 60, 61, 62, 63, 64, 65, 66, 67, 68, 69, 70, 71, 72, 73, 74, 75, 76, 77, 78, 79, 80, 81, 82, 83, 84, 85, 86, 87, 88, 89, 90, 91, 92, 93, 94] (by decide +kernel) (by decide +kernel)
set_option maxRecDepth 20000 in
theorem gX13_weakest_X13_isStack : GoodIn wsX13_weakest (wsV RX13 307 RX13 yX13_isStack wsX13_isStack) := goodIn_app (goodIn_of _ (by decide +kernel)) ggX13_weakest_X13_isStack
set_option maxRecDepth 20000 in
theorem ggX13_weakest_X13_row : GoodIn wsX13_weakest wsX13_row := goodIn_r _ [11, 12, 41, 42, 43, 44, 45, 46, 47, 48, 49, 50, 51, 52, 53, 54, 55, 56, 57, 58, 59, 60, 61, 62, 63, 64, 65, 66, 67, 68, 69, 70, 71, 72, 73, 74, 75, 76, 77, 78] (by decide +kernel) (by decide +kernel)
set_option maxRecDepth 20000 in
theorem gX13_weakest_X13_row : GoodIn wsX13_weakest (wsV RX13 312 RX13 yX13_row wsX13_row) := goodIn_app (goodIn_of _ (by decide +kernel)) ggX13_weakest_X13_row
set_option maxRecDepth 20000 in
theorem ggX13_weakest_X13_steps : GoodIn wsX13_weakest wsX13_steps := goodIn_r _ [16, 12, 41, 42, 43, 44, 45, 46, 47, 48, 49, 50, 51, 52, 53, 54, 55, 56, 57, 58, 59, 60, 61, 62, 63, 64, 65, 66, 67, 68, 69, 70, 71, 72, 73, 74, 75, 76, 77, 78] (by decide +kernel) (by decide +kernel)
set_option maxRecDepth 20000 in
theorem gX13_weakest_X13_steps : GoodIn wsX13_weakest (wsV RX13 310 RX13 yX13_steps wsX13_steps) := goodIn_app (goodIn_of _ (by decide +kernel)) ggX13_weakest_X13_steps
set_option maxRecDepth 20000 in
theorem ggX13_weakest_X13_weakestOf : GoodIn wsX13_weakest wsX13_weakestOf := goodIn_r _ [20, 21, 22, 5, 23, 24, 25, 26, 27, 7, 28, 29, 30, 41, 42, 43, 44, 45, 46, 47, 48, 49, 50, 51, 52, 53, 54, 55, 56, 57, 58, 59, 60, 61, 62, 63, 64, 65, 66, 67, 68, 69, 70, 71, 72, 73, 74, 75, 76, 77, 78, 79, 80, 81, 82, 83, 84, 85, 86, 87, 88, 89, 90, 91, 92, 93, 94] (by decide +kernel) (by decide +kernel)
set_option maxRecDepth 20000 in
theorem gX13_weakest_X13_weakestOf : GoodIn wsX13_weakest (wsV RX13 375 RX13 yX13_weakestOf wsX13_weakestOf) := goodIn_app (goodIn_of _ (by decide +kernel)) ggX13_weakest_X13_weakestOf
set_option maxRecDepth 20000 in
theorem ggX13_weakest_X13_good : GoodIn wsX13_weakest wsX13_good := goodIn_r _ [34, 35, 36, 41, 42, 43, 44, 45, 46, 47, 48, 49, 50, 51, 52, 53, 54, 55, 56, 57, 58, 59, 60, 61, 62, 63, 64, 65, 66, 67, 68, 69, 70, 71, 72, 73, 74, 75, 76, 77, 78] (by decide +kernel) (by decide +kernel)
set_option maxRecDepth 20000 in
theorem gX13_weakest_X13_good : GoodIn wsX13_weakest (wsV RX13 59 RX13 yX13_good wsX13_good) := goodIn_app (goodIn_of _ (by decide +kernel)) ggX13_weakest_X13_good
set_option maxRecDepth 20000 in
theorem ggX13_weakest_X13_refused : GoodIn wsX13_weakest wsX13_refused := goodIn_r _ [40, 35, 36, 41, 42, 43, 44, 45, 46, 47, 48, 49, 50, 51, 52, 53, 54, 55, 56, 57, 58, 59, 60, 61, 62, 63, 64, 65, 66, 67, 68, 69, 70, 71, 72, 73, 74, 75, 76, 77, 78] (by decide +kernel) (by decide +kernel)
set_option maxRecDepth 20000 in
theorem gX13_weakest_X13_refused : GoodIn wsX13_weakest (wsV RX13 55 RX13 yX13_refused wsX13_refused) := goodIn_app (goodIn_of _ (by decide +kernel)) ggX13_weakest_X13_refused
theorem dX13_weakest_0 : decode cX13_weakest 0 = .ok (.aload_n 0, 1) := by decide +kernel
theorem dX13_weakest_1 : decode cX13_weakest 1 = .ok (.iconst 0, 1) := by decide +kernel
theorem dX13_weakest_2 : decode cX13_weakest 2 = .ok (.putfield 49, 3) := by decide +kernel
theorem dX13_weakest_5 : decode cX13_weakest 5 = .ok (.aload_n 0, 1) := by decide +kernel
theorem dX13_weakest_6 : decode cX13_weakest 6 = .ok (.iload_n 1, 1) := by decide +kernel
theorem dX13_weakest_7 : decode cX13_weakest 7 = .ok (.invokevirtual 307, 3) := by decide +kernel
theorem dX13_weakest_10 : decode cX13_weakest 10 = .ok (.ifCond .eq 24, 3) := by decide +kernel
theorem dX13_weakest_13 : decode cX13_weakest 13 = .ok (.aload_n 0, 1) := by decide +kernel
theorem dX13_weakest_14 : decode cX13_weakest 14 = .ok (.aload_n 0, 1) := by decide +kernel
theorem dX13_weakest_15 : decode cX13_weakest 15 = .ok (.aload_n 0, 1) := by decide +kernel
theorem dX13_weakest_16 : decode cX13_weakest 16 = .ok (.iload_n 1, 1) := by decide +kernel
theorem dX13_weakest_17 : decode cX13_weakest 17 = .ok (.invokevirtual 312, 3) := by decide +kernel
theorem dX13_weakest_20 : decode cX13_weakest 20 = .ok (.aload_n 0, 1) := by decide +kernel
theorem dX13_weakest_21 : decode cX13_weakest 21 = .ok (.iload_n 1, 1) := by decide +kernel
theorem dX13_weakest_22 : decode cX13_weakest 22 = .ok (.invokevirtual 310, 3) := by decide +kernel
theorem dX13_weakest_25 : decode cX13_weakest 25 = .ok (.invokevirtual 375, 3) := by decide +kernel
theorem dX13_weakest_28 : decode cX13_weakest 28 = .ok (.invokevirtual 59, 3) := by decide +kernel
theorem dX13_weakest_31 : decode cX13_weakest 31 = .ok (.goto 8, 3) := by decide +kernel
theorem dX13_weakest_34 : decode cX13_weakest 34 = .ok (.aload_n 0, 1) := by decide +kernel
theorem dX13_weakest_35 : decode cX13_weakest 35 = .ok (.iconst 1, 1) := by decide +kernel
theorem dX13_weakest_36 : decode cX13_weakest 36 = .ok (.invokevirtual 55, 3) := by decide +kernel
theorem dX13_weakest_39 : decode cX13_weakest 39 = .ok (.ireturn, 1) := by decide +kernel
set_option maxRecDepth 20000 in
theorem ggX13_faulted_X13_all : GoodIn wsX13_faulted wsX13_all := goodIn_r _ [4] (by decide +kernel) (by decide +kernel)
set_option maxRecDepth 20000 in
theorem gX13_faulted_X13_all : GoodIn wsX13_faulted (va_wsS RX13 285 yX13_all wsX13_all) := goodIn_app (goodIn_of _ (by decide +kernel)) ggX13_faulted_X13_all
theorem dX13_faulted_0 : decode cX13_faulted 0 = .ok (.iload_n 0, 1) := by decide +kernel
theorem dX13_faulted_1 : decode cX13_faulted 1 = .ok (.iload_n 1, 1) := by decide +kernel
theorem dX13_faulted_2 : decode cX13_faulted 2 = .ok (.iload_n 2, 1) := by decide +kernel
theorem dX13_faulted_3 : decode cX13_faulted 3 = .ok (.isub, 1) := by decide +kernel
theorem dX13_faulted_4 : decode cX13_faulted 4 = .ok (.invokestatic 285, 3) := by decide +kernel
theorem dX13_faulted_7 : decode cX13_faulted 7 = .ok (.ixor, 1) := by decide +kernel
theorem dX13_faulted_8 : decode cX13_faulted 8 = .ok (.ireturn, 1) := by decide +kernel
set_option maxRecDepth 20000 in
theorem ggX13_faultEnergy_X13_isStack : GoodIn wsX13_faultEnergy wsX13_isStack := goodIn_r _ [7, 8, 48, 49, 50, 51, 52, 53, 54, 55, 56, 57, 58, 59, 60, 61, 62, 63, 64, 65, 66, 67, 68, 69, 70, 71, 72, 73, 74, 75, 76, 77, 78, 79, 80, 81, 82, 83, 84, 85, 86, 87, 88, 89, 90, 91, 92, 93, 94, 95, 96, 97, 98, 99, 100, 101] (by decide +kernel) (by decide +kernel)
set_option maxRecDepth 20000 in
theorem gX13_faultEnergy_X13_isStack : GoodIn wsX13_faultEnergy (wsV RX13 307 RX13 yX13_isStack wsX13_isStack) := goodIn_app (goodIn_of _ (by decide +kernel)) ggX13_faultEnergy_X13_isStack
set_option maxRecDepth 20000 in
theorem ggX13_faultEnergy_X13_lost : GoodIn wsX13_faultEnergy wsX13_lost := goodIn_r _ [12, 13, 14, 15, 6, 16, 17, 18, 48, 49, 50, 51, 52, 53, 54, 55, 56, 57, 58, 59, 60, 61, 62, 63, 64, 65, 66, 67, 68, 69, 70, 71, 72, 73, 74, 75, 76, 77, 78, 79, 80, 81, 82, 83, 84, 85] (by decide +kernel) (by decide +kernel)
set_option maxRecDepth 20000 in
theorem gX13_faultEnergy_X13_lost : GoodIn wsX13_faultEnergy (wsV RX13 320 RX13 yX13_lost wsX13_lost) := goodIn_app (goodIn_of _ (by decide +kernel)) ggX13_faultEnergy_X13_lost
set_option maxRecDepth 20000 in
theorem ggX13_faultEnergy_X13_steps : GoodIn wsX13_faultEnergy wsX13_steps := goodIn_r _ [22, 23, 48, 49, 50, 51, 52, 53, 54, 55, 56, 57, 58, 59, 60, 61, 62, 63, 64, 65, 66, 67, 68, 69, 70, 71, 72, 73, 74, 75, 76, 77, 78, 79, 80, 81, 82, 83, 84, 85] (by decide +kernel) (by decide +kernel)
set_option maxRecDepth 20000 in
theorem gX13_faultEnergy_X13_steps : GoodIn wsX13_faultEnergy (wsV RX13 310 RX13 yX13_steps wsX13_steps) := goodIn_app (goodIn_of _ (by decide +kernel)) ggX13_faultEnergy_X13_steps
set_option maxRecDepth 20000 in
theorem ggX13_faultEnergy_X13_in : GoodIn wsX13_faultEnergy wsX13_in := goodIn_r _ [26] (by decide +kernel) (by decide +kernel)
set_option maxRecDepth 20000 in
theorem gX13_faultEnergy_X13_in : GoodIn wsX13_faultEnergy (va_wsS RX13 137 yX13_in wsX13_in) := goodIn_app (goodIn_of _ (by decide +kernel)) ggX13_faultEnergy_X13_in
set_option maxRecDepth 20000 in
theorem ggX13_faultEnergy_X13_row : GoodIn wsX13_faultEnergy wsX13_row := goodIn_r _ [30, 23, 48, 49, 50, 51, 52, 53, 54, 55, 56, 57, 58, 59, 60, 61, 62, 63, 64, 65, 66, 67, 68, 69, 70, 71, 72, 73, 74, 75, 76, 77, 78, 79, 80, 81, 82, 83, 84, 85] (by decide +kernel) (by decide +kernel)
