theorem dX13_common_0 : decode cX13_common 0 = .ok (.lload_n 0, 1) := by decide +kernel
theorem dX13_common_1 : decode cX13_common 1 = .ok (.lconst 0, 1) := by decide +kernel
theorem dX13_common_2 : decode cX13_common 2 = .ok (.lcmp, 1) := by decide +kernel
theorem dX13_common_3 : decode cX13_common 3 = .ok (.ifCond .ge 8, 3) := by decide +kernel
theorem dX13_common_6 : decode cX13_common 6 = .ok (.lload_n 0, 1) := by decide +kernel
theorem dX13_common_7 : decode cX13_common 7 = .ok (.lneg, 1) := by decide +kernel
theorem dX13_common_8 : decode cX13_common 8 = .ok (.goto 4, 3) := by decide +kernel
theorem dX13_common_11 : decode cX13_common 11 = .ok (.lload_n 0, 1) := by decide +kernel
theorem dX13_common_12 : decode cX13_common 12 = .ok (.lstore 4, 2) := by decide +kernel
theorem dX13_common_14 : decode cX13_common 14 = .ok (.lload_n 2, 1) := by decide +kernel
theorem dX13_common_15 : decode cX13_common 15 = .ok (.lstore 6, 2) := by decide +kernel
theorem dX13_common_17 : decode cX13_common 17 = .ok (.lload 6, 2) := by decide +kernel
theorem dX13_common_19 : decode cX13_common 19 = .ok (.lconst 0, 1) := by decide +kernel
theorem dX13_common_20 : decode cX13_common 20 = .ok (.lcmp, 1) := by decide +kernel
theorem dX13_common_21 : decode cX13_common 21 = .ok (.ifCond .eq 21, 3) := by decide +kernel
theorem dX13_common_24 : decode cX13_common 24 = .ok (.lload 4, 2) := by decide +kernel
theorem dX13_common_26 : decode cX13_common 26 = .ok (.lload 6, 2) := by decide +kernel
theorem dX13_common_28 : decode cX13_common 28 = .ok (.lrem, 1) := by decide +kernel
theorem dX13_common_29 : decode cX13_common 29 = .ok (.lstore 8, 2) := by decide +kernel
theorem dX13_common_31 : decode cX13_common 31 = .ok (.lload 6, 2) := by decide +kernel
theorem dX13_common_33 : decode cX13_common 33 = .ok (.lstore 4, 2) := by decide +kernel
theorem dX13_common_35 : decode cX13_common 35 = .ok (.lload 8, 2) := by decide +kernel
theorem dX13_common_37 : decode cX13_common 37 = .ok (.lstore 6, 2) := by decide +kernel
theorem dX13_common_39 : decode cX13_common 39 = .ok (.goto (-22), 3) := by decide +kernel
theorem dX13_common_42 : decode cX13_common 42 = .ok (.lload 4, 2) := by decide +kernel
theorem dX13_common_44 : decode cX13_common 44 = .ok (.lreturn, 1) := by decide +kernel
set_option maxRecDepth 20000 in
theorem ggX13_fraction_X13_good : GoodIn wsX13_fraction wsX13_good := goodIn_r _ [5, 6, 7, 11, 12, 13, 14, 15, 16, 17, 18, 19, 20, 21, 22, 23, 24, 25, 26, 27, 28, 29, 30, 31, 32, 33, 34, 35, 36, 37, 38, 39, 40, 41, 42, 43, 44, 45, 46, 47, 48] (by decide +kernel) (by decide +kernel)
set_option maxRecDepth 20000 in
theorem gX13_fraction_X13_good : GoodIn wsX13_fraction (wsV RX13 59 RX13 yX13_good wsX13_good) := goodIn_app (goodIn_of _ (by decide +kernel)) ggX13_fraction_X13_good
set_option maxRecDepth 20000 in
theorem ggX13_fraction_X13_common : GoodIn wsX13_fraction wsX13_common := goodIn_r _ [10] (by decide +kernel) (by decide +kernel)
set_option maxRecDepth 20000 in
theorem gX13_fraction_X13_common : GoodIn wsX13_fraction (va_wsS RX13 62 yX13_common wsX13_common) := goodIn_app (goodIn_of _ (by decide +kernel)) ggX13_fraction_X13_common
theorem dX13_fraction_0 : decode cX13_fraction 0 = .ok (.aload_n 0, 1) := by decide +kernel
theorem dX13_fraction_1 : decode cX13_fraction 1 = .ok (.iconst 0, 1) := by decide +kernel
theorem dX13_fraction_2 : decode cX13_fraction 2 = .ok (.invokevirtual 59, 3) := by decide +kernel
theorem dX13_fraction_5 : decode cX13_fraction 5 = .ok (.pop, 1) := by decide +kernel
theorem dX13_fraction_6 : decode cX13_fraction 6 = .ok (.iload 5, 2) := by decide +kernel
theorem dX13_fraction_8 : decode cX13_fraction 8 = .ok (.ifCond .eq 7, 3) := by decide +kernel
theorem dX13_fraction_11 : decode cX13_fraction 11 = .ok (.lload_n 3, 1) := by decide +kernel
theorem dX13_fraction_12 : decode cX13_fraction 12 = .ok (.goto 4, 3) := by decide +kernel
theorem dX13_fraction_15 : decode cX13_fraction 15 = .ok (.lload_n 1, 1) := by decide +kernel
theorem dX13_fraction_16 : decode cX13_fraction 16 = .ok (.lload_n 1, 1) := by decide +kernel
theorem dX13_fraction_17 : decode cX13_fraction 17 = .ok (.lload_n 3, 1) := by decide +kernel
theorem dX13_fraction_18 : decode cX13_fraction 18 = .ok (.invokestatic 62, 3) := by decide +kernel
theorem dX13_fraction_21 : decode cX13_fraction 21 = .ok (.ldiv, 1) := by decide +kernel
theorem dX13_fraction_22 : decode cX13_fraction 22 = .ok (.lreturn, 1) := by decide +kernel
theorem dX13_power_0 : decode cX13_power 0 = .ok (.lconst 1, 1) := by decide +kernel
theorem dX13_power_1 : decode cX13_power 1 = .ok (.lstore_n 3, 1) := by decide +kernel
theorem dX13_power_2 : decode cX13_power 2 = .ok (.iconst 0, 1) := by decide +kernel
theorem dX13_power_3 : decode cX13_power 3 = .ok (.istore 5, 2) := by decide +kernel
theorem dX13_power_5 : decode cX13_power 5 = .ok (.iload 5, 2) := by decide +kernel
theorem dX13_power_7 : decode cX13_power 7 = .ok (.iload_n 2, 1) := by decide +kernel
theorem dX13_power_8 : decode cX13_power 8 = .ok (.if_icmp .ge 13, 3) := by decide +kernel
theorem dX13_power_11 : decode cX13_power 11 = .ok (.lload_n 3, 1) := by decide +kernel
theorem dX13_power_12 : decode cX13_power 12 = .ok (.lload_n 0, 1) := by decide +kernel
theorem dX13_power_13 : decode cX13_power 13 = .ok (.lmul, 1) := by decide +kernel
theorem dX13_power_14 : decode cX13_power 14 = .ok (.lstore_n 3, 1) := by decide +kernel
theorem dX13_power_15 : decode cX13_power 15 = .ok (.iinc 5 1, 3) := by decide +kernel
theorem dX13_power_18 : decode cX13_power 18 = .ok (.goto (-13), 3) := by decide +kernel
theorem dX13_power_21 : decode cX13_power 21 = .ok (.lload_n 3, 1) := by decide +kernel
theorem dX13_power_22 : decode cX13_power 22 = .ok (.lreturn, 1) := by decide +kernel
theorem dX13_byteAt_0 : decode cX13_byteAt 0 = .ok (.iload_n 1, 1) := by decide +kernel
theorem dX13_byteAt_1 : decode cX13_byteAt 1 = .ok (.aload_n 0, 1) := by decide +kernel
theorem dX13_byteAt_2 : decode cX13_byteAt 2 = .ok (.getfield 66, 3) := by decide +kernel
theorem dX13_byteAt_5 : decode cX13_byteAt 5 = .ok (.if_icmp .ge 16, 3) := by decide +kernel
theorem dX13_byteAt_8 : decode cX13_byteAt 8 = .ok (.aload_n 0, 1) := by decide +kernel
theorem dX13_byteAt_9 : decode cX13_byteAt 9 = .ok (.getfield 13, 3) := by decide +kernel
theorem dX13_byteAt_12 : decode cX13_byteAt 12 = .ok (.iload_n 1, 1) := by decide +kernel
theorem dX13_byteAt_13 : decode cX13_byteAt 13 = .ok (.baload, 1) := by decide +kernel
theorem dX13_byteAt_14 : decode cX13_byteAt 14 = .ok (.sipush 255, 3) := by decide +kernel
theorem dX13_byteAt_17 : decode cX13_byteAt 17 = .ok (.iand, 1) := by decide +kernel
theorem dX13_byteAt_18 : decode cX13_byteAt 18 = .ok (.goto 4, 3) := by decide +kernel
theorem dX13_byteAt_21 : decode cX13_byteAt 21 = .ok (.iconst (-1), 1) := by decide +kernel
theorem dX13_byteAt_22 : decode cX13_byteAt 22 = .ok (.ireturn, 1) := by decide +kernel
theorem dX13_isLetter_0 : decode cX13_isLetter 0 = .ok (.iload_n 0, 1) := by decide +kernel
theorem dX13_isLetter_1 : decode cX13_isLetter 1 = .ok (.bipush 97, 2) := by decide +kernel
theorem dX13_isLetter_3 : decode cX13_isLetter 3 = .ok (.if_icmp .lt 13, 3) := by decide +kernel
theorem dX13_isLetter_6 : decode cX13_isLetter 6 = .ok (.iload_n 0, 1) := by decide +kernel
theorem dX13_isLetter_7 : decode cX13_isLetter 7 = .ok (.bipush 122, 2) := by decide +kernel
theorem dX13_isLetter_9 : decode cX13_isLetter 9 = .ok (.if_icmp .gt 7, 3) := by decide +kernel
theorem dX13_isLetter_12 : decode cX13_isLetter 12 = .ok (.iconst 1, 1) := by decide +kernel
theorem dX13_isLetter_13 : decode cX13_isLetter 13 = .ok (.goto 4, 3) := by decide +kernel
theorem dX13_isLetter_16 : decode cX13_isLetter 16 = .ok (.iconst 0, 1) := by decide +kernel
theorem dX13_isLetter_17 : decode cX13_isLetter 17 = .ok (.ireturn, 1) := by decide +kernel
theorem dX13_isDigit_0 : decode cX13_isDigit 0 = .ok (.iload_n 0, 1) := by decide +kernel
theorem dX13_isDigit_1 : decode cX13_isDigit 1 = .ok (.bipush 48, 2) := by decide +kernel
theorem dX13_isDigit_3 : decode cX13_isDigit 3 = .ok (.if_icmp .lt 13, 3) := by decide +kernel
theorem dX13_isDigit_6 : decode cX13_isDigit 6 = .ok (.iload_n 0, 1) := by decide +kernel
theorem dX13_isDigit_7 : decode cX13_isDigit 7 = .ok (.bipush 57, 2) := by decide +kernel
theorem dX13_isDigit_9 : decode cX13_isDigit 9 = .ok (.if_icmp .gt 7, 3) := by decide +kernel
theorem dX13_isDigit_12 : decode cX13_isDigit 12 = .ok (.iconst 1, 1) := by decide +kernel
theorem dX13_isDigit_13 : decode cX13_isDigit 13 = .ok (.goto 4, 3) := by decide +kernel
theorem dX13_isDigit_16 : decode cX13_isDigit 16 = .ok (.iconst 0, 1) := by decide +kernel
theorem dX13_isDigit_17 : decode cX13_isDigit 17 = .ok (.ireturn, 1) := by decide +kernel
set_option maxRecDepth 20000 in
theorem ggX13_packed_J0_length_8abf5 : GoodIn wsX13_packed wsJ0_length_8abf5 := goodIn_r _ [6, 7, 8, 9, 10, 5, 11, 12, 13] (by decide +kernel) (by decide +kernel)
set_option maxRecDepth 20000 in
theorem gX13_packed_J0_length_8abf5 : GoodIn wsX13_packed (wsV RX13 69 RJ0 yJ0_length_8abf5 wsJ0_length_8abf5) := goodIn_app (goodIn_of _ (by decide +kernel)) ggX13_packed_J0_length_8abf5
set_option maxRecDepth 20000 in
theorem ggX13_packed_J0_charAt_5068e : GoodIn wsX13_packed wsJ0_charAt_5068e := goodIn_r _ [17, 7, 18, 19, 20, 5, 21, 12, 13, 22, 23, 24, 25, 26, 27, 28, 29, 30, 31, 32, 33, 34, 35, 36, 37, 38, 39, 40, 41, 42, 43, 44, 45, 46, 47, 48, 49, 50] (by decide +kernel) (by decide +kernel)
set_option maxRecDepth 20000 in
theorem gX13_packed_J0_charAt_5068e : GoodIn wsX13_packed (wsV RX13 77 RJ0 yJ0_charAt_5068e wsJ0_charAt_5068e) := goodIn_app (goodIn_of _ (by decide +kernel)) ggX13_packed_J0_charAt_5068e
theorem dX13_packed_0 : decode cX13_packed 0 = .ok (.lconst 0, 1) := by decide +kernel
theorem dX13_packed_1 : decode cX13_packed 1 = .ok (.lstore_n 1, 1) := by decide +kernel
theorem dX13_packed_2 : decode cX13_packed 2 = .ok (.iconst 0, 1) := by decide +kernel
theorem dX13_packed_3 : decode cX13_packed 3 = .ok (.istore_n 3, 1) := by decide +kernel
theorem dX13_packed_4 : decode cX13_packed 4 = .ok (.iload_n 3, 1) := by decide +kernel
theorem dX13_packed_5 : decode cX13_packed 5 = .ok (.aload_n 0, 1) := by decide +kernel
theorem dX13_packed_6 : decode cX13_packed 6 = .ok (.invokevirtual 69, 3) := by decide +kernel
theorem dX13_packed_9 : decode cX13_packed 9 = .ok (.if_icmp .ge 27, 3) := by decide +kernel
theorem dX13_packed_12 : decode cX13_packed 12 = .ok (.ldc2_w 75, 3) := by decide +kernel
theorem dX13_packed_15 : decode cX13_packed 15 = .ok (.lload_n 1, 1) := by decide +kernel
theorem dX13_packed_16 : decode cX13_packed 16 = .ok (.lmul, 1) := by decide +kernel
theorem dX13_packed_17 : decode cX13_packed 17 = .ok (.aload_n 0, 1) := by decide +kernel
theorem dX13_packed_18 : decode cX13_packed 18 = .ok (.iload_n 3, 1) := by decide +kernel
theorem dX13_packed_19 : decode cX13_packed 19 = .ok (.invokevirtual 77, 3) := by decide +kernel
theorem dX13_packed_22 : decode cX13_packed 22 = .ok (.bipush 97, 2) := by decide +kernel
theorem dX13_packed_24 : decode cX13_packed 24 = .ok (.isub, 1) := by decide +kernel
theorem dX13_packed_25 : decode cX13_packed 25 = .ok (.iconst 1, 1) := by decide +kernel
theorem dX13_packed_26 : decode cX13_packed 26 = .ok (.iadd, 1) := by decide +kernel
theorem dX13_packed_27 : decode cX13_packed 27 = .ok (.i2l, 1) := by decide +kernel
theorem dX13_packed_28 : decode cX13_packed 28 = .ok (.ladd, 1) := by decide +kernel
theorem dX13_packed_29 : decode cX13_packed 29 = .ok (.lstore_n 1, 1) := by decide +kernel
theorem dX13_packed_30 : decode cX13_packed 30 = .ok (.iinc 3 1, 3) := by decide +kernel
theorem dX13_packed_33 : decode cX13_packed 33 = .ok (.goto (-29), 3) := by decide +kernel
theorem dX13_packed_36 : decode cX13_packed 36 = .ok (.lload_n 1, 1) := by decide +kernel
theorem dX13_packed_37 : decode cX13_packed 37 = .ok (.lreturn, 1) := by decide +kernel
set_option maxRecDepth 20000 in
theorem ggX13_wordGoesBy_X13_byteAt : GoodIn wsX13_wordGoesBy wsX13_byteAt := goodIn_r _ [12, 13, 14, 18, 19, 20, 21, 22, 23, 24, 25, 26, 27, 28, 29, 30, 31, 32, 33, 34, 35, 36, 37, 38, 39, 40, 41, 42, 43, 44, 45, 46, 47, 48, 49, 50, 51, 52, 53, 54, 55] (by decide +kernel) (by decide +kernel)
set_option maxRecDepth 20000 in
theorem gX13_wordGoesBy_X13_byteAt : GoodIn wsX13_wordGoesBy (wsV RX13 98 RX13 yX13_byteAt wsX13_byteAt) := goodIn_app (goodIn_of _ (by decide +kernel)) ggX13_wordGoesBy_X13_byteAt
set_option maxRecDepth 20000 in
theorem ggX13_wordGoesBy_X13_isLetter : GoodIn wsX13_wordGoesBy wsX13_isLetter := goodIn_r _ [17] (by decide +kernel) (by decide +kernel)
set_option maxRecDepth 20000 in
theorem gX13_wordGoesBy_X13_isLetter : GoodIn wsX13_wordGoesBy (va_wsS RX13 101 yX13_isLetter wsX13_isLetter) := goodIn_app (goodIn_of _ (by decide +kernel)) ggX13_wordGoesBy_X13_isLetter
theorem dX13_wordGoesBy_0 : decode cX13_wordGoesBy 0 = .ok (.aload_n 0, 1) := by decide +kernel
theorem dX13_wordGoesBy_1 : decode cX13_wordGoesBy 1 = .ok (.lconst 0, 1) := by decide +kernel
theorem dX13_wordGoesBy_2 : decode cX13_wordGoesBy 2 = .ok (.putfield 81, 3) := by decide +kernel
theorem dX13_wordGoesBy_5 : decode cX13_wordGoesBy 5 = .ok (.aload_n 0, 1) := by decide +kernel
theorem dX13_wordGoesBy_6 : decode cX13_wordGoesBy 6 = .ok (.iconst 0, 1) := by decide +kernel
theorem dX13_wordGoesBy_7 : decode cX13_wordGoesBy 7 = .ok (.putfield 85, 3) := by decide +kernel
theorem dX13_wordGoesBy_10 : decode cX13_wordGoesBy 10 = .ok (.aload_n 0, 1) := by decide +kernel
theorem dX13_wordGoesBy_11 : decode cX13_wordGoesBy 11 = .ok (.iconst 0, 1) := by decide +kernel
theorem dX13_wordGoesBy_12 : decode cX13_wordGoesBy 12 = .ok (.putfield 88, 3) := by decide +kernel
theorem dX13_wordGoesBy_15 : decode cX13_wordGoesBy 15 = .ok (.aload_n 0, 1) := by decide +kernel
theorem dX13_wordGoesBy_16 : decode cX13_wordGoesBy 16 = .ok (.iconst 1, 1) := by decide +kernel
theorem dX13_wordGoesBy_17 : decode cX13_wordGoesBy 17 = .ok (.putfield 91, 3) := by decide +kernel
theorem dX13_wordGoesBy_20 : decode cX13_wordGoesBy 20 = .ok (.aload_n 0, 1) := by decide +kernel
theorem dX13_wordGoesBy_21 : decode cX13_wordGoesBy 21 = .ok (.aload_n 0, 1) := by decide +kernel
theorem dX13_wordGoesBy_22 : decode cX13_wordGoesBy 22 = .ok (.getfield 95, 3) := by decide +kernel
theorem dX13_wordGoesBy_25 : decode cX13_wordGoesBy 25 = .ok (.invokevirtual 98, 3) := by decide +kernel
theorem dX13_wordGoesBy_28 : decode cX13_wordGoesBy 28 = .ok (.invokestatic 101, 3) := by decide +kernel
theorem dX13_wordGoesBy_31 : decode cX13_wordGoesBy 31 = .ok (.ifCond .eq 103, 3) := by decide +kernel
theorem dX13_wordGoesBy_34 : decode cX13_wordGoesBy 34 = .ok (.aload_n 0, 1) := by decide +kernel
theorem dX13_wordGoesBy_35 : decode cX13_wordGoesBy 35 = .ok (.aload_n 0, 1) := by decide +kernel
theorem dX13_wordGoesBy_36 : decode cX13_wordGoesBy 36 = .ok (.getfield 95, 3) := by decide +kernel
theorem dX13_wordGoesBy_39 : decode cX13_wordGoesBy 39 = .ok (.invokevirtual 98, 3) := by decide +kernel
theorem dX13_wordGoesBy_42 : decode cX13_wordGoesBy 42 = .ok (.istore_n 1, 1) := by decide +kernel
theorem dX13_wordGoesBy_43 : decode cX13_wordGoesBy 43 = .ok (.aload_n 0, 1) := by decide +kernel
theorem dX13_wordGoesBy_44 : decode cX13_wordGoesBy 44 = .ok (.getfield 85, 3) := by decide +kernel
theorem dX13_wordGoesBy_47 : decode cX13_wordGoesBy 47 = .ok (.bipush 12, 2) := by decide +kernel
theorem dX13_wordGoesBy_49 : decode cX13_wordGoesBy 49 = .ok (.if_icmp .ge 45, 3) := by decide +kernel
theorem dX13_wordGoesBy_52 : decode cX13_wordGoesBy 52 = .ok (.aload_n 0, 1) := by decide +kernel
theorem dX13_wordGoesBy_53 : decode cX13_wordGoesBy 53 = .ok (.ldc2_w 75, 3) := by decide +kernel
theorem dX13_wordGoesBy_56 : decode cX13_wordGoesBy 56 = .ok (.aload_n 0, 1) := by decide +kernel
theorem dX13_wordGoesBy_57 : decode cX13_wordGoesBy 57 = .ok (.getfield 81, 3) := by decide +kernel
theorem dX13_wordGoesBy_60 : decode cX13_wordGoesBy 60 = .ok (.lmul, 1) := by decide +kernel
theorem dX13_wordGoesBy_61 : decode cX13_wordGoesBy 61 = .ok (.iload_n 1, 1) := by decide +kernel
theorem dX13_wordGoesBy_62 : decode cX13_wordGoesBy 62 = .ok (.bipush 97, 2) := by decide +kernel
theorem dX13_wordGoesBy_64 : decode cX13_wordGoesBy 64 = .ok (.isub, 1) := by decide +kernel
theorem dX13_wordGoesBy_65 : decode cX13_wordGoesBy 65 = .ok (.iconst 1, 1) := by decide +kernel
theorem dX13_wordGoesBy_66 : decode cX13_wordGoesBy 66 = .ok (.iadd, 1) := by decide +kernel
theorem dX13_wordGoesBy_67 : decode cX13_wordGoesBy 67 = .ok (.i2l, 1) := by decide +kernel
theorem dX13_wordGoesBy_68 : decode cX13_wordGoesBy 68 = .ok (.ladd, 1) := by decide +kernel
theorem dX13_wordGoesBy_69 : decode cX13_wordGoesBy 69 = .ok (.putfield 81, 3) := by decide +kernel
theorem dX13_wordGoesBy_72 : decode cX13_wordGoesBy 72 = .ok (.aload_n 0, 1) := by decide +kernel
theorem dX13_wordGoesBy_73 : decode cX13_wordGoesBy 73 = .ok (.iconst 2, 1) := by decide +kernel
theorem dX13_wordGoesBy_74 : decode cX13_wordGoesBy 74 = .ok (.aload_n 0, 1) := by decide +kernel
theorem dX13_wordGoesBy_75 : decode cX13_wordGoesBy 75 = .ok (.getfield 88, 3) := by decide +kernel
theorem dX13_wordGoesBy_78 : decode cX13_wordGoesBy 78 = .ok (.imul, 1) := by decide +kernel
theorem dX13_wordGoesBy_79 : decode cX13_wordGoesBy 79 = .ok (.iload_n 1, 1) := by decide +kernel
theorem dX13_wordGoesBy_80 : decode cX13_wordGoesBy 80 = .ok (.bipush 117, 2) := by decide +kernel
theorem dX13_wordGoesBy_82 : decode cX13_wordGoesBy 82 = .ok (.if_icmp .ne 7, 3) := by decide +kernel
theorem dX13_wordGoesBy_85 : decode cX13_wordGoesBy 85 = .ok (.iconst 1, 1) := by decide +kernel
theorem dX13_wordGoesBy_86 : decode cX13_wordGoesBy 86 = .ok (.goto 4, 3) := by decide +kernel
theorem dX13_wordGoesBy_89 : decode cX13_wordGoesBy 89 = .ok (.iconst 0, 1) := by decide +kernel
theorem dX13_wordGoesBy_90 : decode cX13_wordGoesBy 90 = .ok (.iadd, 1) := by decide +kernel
theorem dX13_wordGoesBy_91 : decode cX13_wordGoesBy 91 = .ok (.putfield 88, 3) := by decide +kernel
theorem dX13_wordGoesBy_94 : decode cX13_wordGoesBy 94 = .ok (.iload_n 1, 1) := by decide +kernel
theorem dX13_wordGoesBy_95 : decode cX13_wordGoesBy 95 = .ok (.bipush 117, 2) := by decide +kernel
theorem dX13_wordGoesBy_97 : decode cX13_wordGoesBy 97 = .ok (.if_icmp .eq 14, 3) := by decide +kernel
theorem dX13_wordGoesBy_100 : decode cX13_wordGoesBy 100 = .ok (.iload_n 1, 1) := by decide +kernel
theorem dX13_wordGoesBy_101 : decode cX13_wordGoesBy 101 = .ok (.bipush 100, 2) := by decide +kernel
theorem dX13_wordGoesBy_103 : decode cX13_wordGoesBy 103 = .ok (.if_icmp .eq 8, 3) := by decide +kernel
theorem dX13_wordGoesBy_106 : decode cX13_wordGoesBy 106 = .ok (.aload_n 0, 1) := by decide +kernel
theorem dX13_wordGoesBy_107 : decode cX13_wordGoesBy 107 = .ok (.iconst 0, 1) := by decide +kernel
theorem dX13_wordGoesBy_108 : decode cX13_wordGoesBy 108 = .ok (.putfield 91, 3) := by decide +kernel
theorem dX13_wordGoesBy_111 : decode cX13_wordGoesBy 111 = .ok (.aload_n 0, 1) := by decide +kernel
theorem dX13_wordGoesBy_112 : decode cX13_wordGoesBy 112 = .ok (.dup, 1) := by decide +kernel
theorem dX13_wordGoesBy_113 : decode cX13_wordGoesBy 113 = .ok (.getfield 85, 3) := by decide +kernel
theorem dX13_wordGoesBy_116 : decode cX13_wordGoesBy 116 = .ok (.iconst 1, 1) := by decide +kernel
theorem dX13_wordGoesBy_117 : decode cX13_wordGoesBy 117 = .ok (.iadd, 1) := by decide +kernel
theorem dX13_wordGoesBy_118 : decode cX13_wordGoesBy 118 = .ok (.putfield 85, 3) := by decide +kernel
theorem dX13_wordGoesBy_121 : decode cX13_wordGoesBy 121 = .ok (.aload_n 0, 1) := by decide +kernel
theorem dX13_wordGoesBy_122 : decode cX13_wordGoesBy 122 = .ok (.dup, 1) := by decide +kernel
theorem dX13_wordGoesBy_123 : decode cX13_wordGoesBy 123 = .ok (.getfield 95, 3) := by decide +kernel
theorem dX13_wordGoesBy_126 : decode cX13_wordGoesBy 126 = .ok (.iconst 1, 1) := by decide +kernel
theorem dX13_wordGoesBy_127 : decode cX13_wordGoesBy 127 = .ok (.iadd, 1) := by decide +kernel
theorem dX13_wordGoesBy_128 : decode cX13_wordGoesBy 128 = .ok (.putfield 95, 3) := by decide +kernel
theorem dX13_wordGoesBy_131 : decode cX13_wordGoesBy 131 = .ok (.goto (-111), 3) := by decide +kernel
theorem dX13_wordGoesBy_134 : decode cX13_wordGoesBy 134 = .ok (.aload_n 0, 1) := by decide +kernel
theorem dX13_wordGoesBy_135 : decode cX13_wordGoesBy 135 = .ok (.getfield 85, 3) := by decide +kernel
theorem dX13_wordGoesBy_138 : decode cX13_wordGoesBy 138 = .ok (.bipush 12, 2) := by decide +kernel
theorem dX13_wordGoesBy_140 : decode cX13_wordGoesBy 140 = .ok (.if_icmp .gt 8, 3) := by decide +kernel
theorem dX13_wordGoesBy_143 : decode cX13_wordGoesBy 143 = .ok (.aload_n 0, 1) := by decide +kernel
theorem dX13_wordGoesBy_144 : decode cX13_wordGoesBy 144 = .ok (.iconst 2, 1) := by decide +kernel
theorem dX13_wordGoesBy_145 : decode cX13_wordGoesBy 145 = .ok (.putfield 105, 3) := by decide +kernel
theorem dX13_wordGoesBy_148 : decode cX13_wordGoesBy 148 = .ok (.return_, 1) := by decide +kernel
set_option maxRecDepth 20000 in
theorem ggX13_goesOn_X13_byteAt : GoodIn wsX13_goesOn wsX13_byteAt := goodIn_r _ [9, 10, 11, 27, 28, 29, 30, 31, 32, 33, 34, 35, 36, 37, 38, 39, 40, 41, 42, 43, 44, 45, 46, 47, 48, 49, 50, 51, 52, 53, 54, 55, 56, 57, 58, 59, 60, 61, 62, 63, 64] (by decide +kernel) (by decide +kernel)
set_option maxRecDepth 20000 in
theorem gX13_goesOn_X13_byteAt : GoodIn wsX13_goesOn (wsV RX13 98 RX13 yX13_byteAt wsX13_byteAt) := goodIn_app (goodIn_of _ (by decide +kernel)) ggX13_goesOn_X13_byteAt
set_option maxRecDepth 20000 in
theorem ggX13_goesOn_X13_isLetter : GoodIn wsX13_goesOn wsX13_isLetter := goodIn_r _ [14] (by decide +kernel) (by decide +kernel)
set_option maxRecDepth 20000 in
theorem gX13_goesOn_X13_isLetter : GoodIn wsX13_goesOn (va_wsS RX13 101 yX13_isLetter wsX13_isLetter) := goodIn_app (goodIn_of _ (by decide +kernel)) ggX13_goesOn_X13_isLetter
set_option maxRecDepth 20000 in
theorem ggX13_goesOn_X13_wordGoesBy : GoodIn wsX13_goesOn wsX13_wordGoesBy := goodIn_r _ [18, 19, 20, 21, 22, 2, 23, 1, 5, 6, 7, 8, 9, 10, 11, 12, 13, 14, 27, 28, 29, 30, 31, 32, 33, 34, 35, 36, 37, 38, 39, 40, 41, 42, 43, 44, 45, 46, 47, 48, 49, 50, 51, 52, 53, 54, 55, 56, 57, 58, 59, 60, 61, 62, 63, 64] (by decide +kernel) (by decide +kernel)
set_option maxRecDepth 20000 in
theorem gX13_goesOn_X13_wordGoesBy : GoodIn wsX13_goesOn (wsV RX13 111 RX13 yX13_wordGoesBy wsX13_wordGoesBy) := goodIn_app (goodIn_of _ (by decide +kernel)) ggX13_goesOn_X13_wordGoesBy
set_option maxRecDepth 20000 in
theorem ggX13_goesOn_X13_isDigit : GoodIn wsX13_goesOn wsX13_isDigit := goodIn_r _ [26] (by decide +kernel) (by decide +kernel)
set_option maxRecDepth 20000 in
theorem gX13_goesOn_X13_isDigit : GoodIn wsX13_goesOn (va_wsS RX13 114 yX13_isDigit wsX13_isDigit) := goodIn_app (goodIn_of _ (by decide +kernel)) ggX13_goesOn_X13_isDigit
theorem dX13_goesOn_0 : decode cX13_goesOn 0 = .ok (.aload_n 0, 1) := by decide +kernel
theorem dX13_goesOn_1 : decode cX13_goesOn 1 = .ok (.getfield 105, 3) := by decide +kernel
theorem dX13_goesOn_4 : decode cX13_goesOn 4 = .ok (.iconst 5, 1) := by decide +kernel
theorem dX13_goesOn_5 : decode cX13_goesOn 5 = .ok (.if_icmp .ne 4, 3) := by decide +kernel
theorem dX13_goesOn_8 : decode cX13_goesOn 8 = .ok (.return_, 1) := by decide +kernel
theorem dX13_goesOn_9 : decode cX13_goesOn 9 = .ok (.aload_n 0, 1) := by decide +kernel
theorem dX13_goesOn_10 : decode cX13_goesOn 10 = .ok (.aload_n 0, 1) := by decide +kernel
theorem dX13_goesOn_11 : decode cX13_goesOn 11 = .ok (.getfield 95, 3) := by decide +kernel
theorem dX13_goesOn_14 : decode cX13_goesOn 14 = .ok (.invokevirtual 98, 3) := by decide +kernel
theorem dX13_goesOn_17 : decode cX13_goesOn 17 = .ok (.bipush 32, 2) := by decide +kernel
theorem dX13_goesOn_19 : decode cX13_goesOn 19 = .ok (.if_icmp .ne 16, 3) := by decide +kernel
theorem dX13_goesOn_22 : decode cX13_goesOn 22 = .ok (.aload_n 0, 1) := by decide +kernel
theorem dX13_goesOn_23 : decode cX13_goesOn 23 = .ok (.dup, 1) := by decide +kernel
theorem dX13_goesOn_24 : decode cX13_goesOn 24 = .ok (.getfield 95, 3) := by decide +kernel
theorem dX13_goesOn_27 : decode cX13_goesOn 27 = .ok (.iconst 1, 1) := by decide +kernel
theorem dX13_goesOn_28 : decode cX13_goesOn 28 = .ok (.iadd, 1) := by decide +kernel
theorem dX13_goesOn_29 : decode cX13_goesOn 29 = .ok (.putfield 95, 3) := by decide +kernel
theorem dX13_goesOn_32 : decode cX13_goesOn 32 = .ok (.goto (-23), 3) := by decide +kernel
theorem dX13_goesOn_35 : decode cX13_goesOn 35 = .ok (.aload_n 0, 1) := by decide +kernel
theorem dX13_goesOn_36 : decode cX13_goesOn 36 = .ok (.aload_n 0, 1) := by decide +kernel
theorem dX13_goesOn_37 : decode cX13_goesOn 37 = .ok (.getfield 95, 3) := by decide +kernel
theorem dX13_goesOn_40 : decode cX13_goesOn 40 = .ok (.putfield 108, 3) := by decide +kernel
theorem dX13_goesOn_43 : decode cX13_goesOn 43 = .ok (.aload_n 0, 1) := by decide +kernel
theorem dX13_goesOn_44 : decode cX13_goesOn 44 = .ok (.iconst 0, 1) := by decide +kernel
theorem dX13_goesOn_45 : decode cX13_goesOn 45 = .ok (.putfield 105, 3) := by decide +kernel
theorem dX13_goesOn_48 : decode cX13_goesOn 48 = .ok (.aload_n 0, 1) := by decide +kernel
theorem dX13_goesOn_49 : decode cX13_goesOn 49 = .ok (.aload_n 0, 1) := by decide +kernel
theorem dX13_goesOn_50 : decode cX13_goesOn 50 = .ok (.getfield 95, 3) := by decide +kernel
theorem dX13_goesOn_53 : decode cX13_goesOn 53 = .ok (.invokevirtual 98, 3) := by decide +kernel
theorem dX13_goesOn_56 : decode cX13_goesOn 56 = .ok (.istore_n 1, 1) := by decide +kernel
theorem dX13_goesOn_57 : decode cX13_goesOn 57 = .ok (.iconst 0, 1) := by decide +kernel
theorem dX13_goesOn_58 : decode cX13_goesOn 58 = .ok (.istore_n 2, 1) := by decide +kernel
theorem dX13_goesOn_59 : decode cX13_goesOn 59 = .ok (.iload_n 1, 1) := by decide +kernel
theorem dX13_goesOn_60 : decode cX13_goesOn 60 = .ok (.iconst (-1), 1) := by decide +kernel
theorem dX13_goesOn_61 : decode cX13_goesOn 61 = .ok (.if_icmp .ne 11, 3) := by decide +kernel
theorem dX13_goesOn_64 : decode cX13_goesOn 64 = .ok (.aload_n 0, 1) := by decide +kernel
theorem dX13_goesOn_65 : decode cX13_goesOn 65 = .ok (.iconst 1, 1) := by decide +kernel
theorem dX13_goesOn_66 : decode cX13_goesOn 66 = .ok (.putfield 105, 3) := by decide +kernel
theorem dX13_goesOn_69 : decode cX13_goesOn 69 = .ok (.goto 132, 3) := by decide +kernel
theorem dX13_goesOn_72 : decode cX13_goesOn 72 = .ok (.iload_n 1, 1) := by decide +kernel
theorem dX13_goesOn_73 : decode cX13_goesOn 73 = .ok (.invokestatic 101, 3) := by decide +kernel
theorem dX13_goesOn_76 : decode cX13_goesOn 76 = .ok (.ifCond .eq 10, 3) := by decide +kernel
theorem dX13_goesOn_79 : decode cX13_goesOn 79 = .ok (.aload_n 0, 1) := by decide +kernel
theorem dX13_goesOn_80 : decode cX13_goesOn 80 = .ok (.invokevirtual 111, 3) := by decide +kernel
theorem dX13_goesOn_83 : decode cX13_goesOn 83 = .ok (.goto 118, 3) := by decide +kernel
theorem dX13_goesOn_86 : decode cX13_goesOn 86 = .ok (.iload_n 1, 1) := by decide +kernel
theorem dX13_goesOn_87 : decode cX13_goesOn 87 = .ok (.invokestatic 114, 3) := by decide +kernel
theorem dX13_goesOn_90 : decode cX13_goesOn 90 = .ok (.ifCond .eq 79, 3) := by decide +kernel
theorem dX13_goesOn_93 : decode cX13_goesOn 93 = .ok (.aload_n 0, 1) := by decide +kernel
theorem dX13_goesOn_94 : decode cX13_goesOn 94 = .ok (.iconst 0, 1) := by decide +kernel
theorem dX13_goesOn_95 : decode cX13_goesOn 95 = .ok (.putfield 117, 3) := by decide +kernel
theorem dX13_goesOn_98 : decode cX13_goesOn 98 = .ok (.aload_n 0, 1) := by decide +kernel
theorem dX13_goesOn_99 : decode cX13_goesOn 99 = .ok (.aload_n 0, 1) := by decide +kernel
theorem dX13_goesOn_100 : decode cX13_goesOn 100 = .ok (.getfield 95, 3) := by decide +kernel
theorem dX13_goesOn_103 : decode cX13_goesOn 103 = .ok (.invokevirtual 98, 3) := by decide +kernel
theorem dX13_goesOn_106 : decode cX13_goesOn 106 = .ok (.invokestatic 114, 3) := by decide +kernel
theorem dX13_goesOn_109 : decode cX13_goesOn 109 = .ok (.ifCond .eq 47, 3) := by decide +kernel
theorem dX13_goesOn_112 : decode cX13_goesOn 112 = .ok (.iload_n 2, 1) := by decide +kernel
theorem dX13_goesOn_113 : decode cX13_goesOn 113 = .ok (.iconst 3, 1) := by decide +kernel
theorem dX13_goesOn_114 : decode cX13_goesOn 114 = .ok (.if_icmp .ge 26, 3) := by decide +kernel
theorem dX13_goesOn_117 : decode cX13_goesOn 117 = .ok (.aload_n 0, 1) := by decide +kernel
theorem dX13_goesOn_118 : decode cX13_goesOn 118 = .ok (.bipush 10, 2) := by decide +kernel
theorem dX13_goesOn_120 : decode cX13_goesOn 120 = .ok (.aload_n 0, 1) := by decide +kernel
theorem dX13_goesOn_121 : decode cX13_goesOn 121 = .ok (.getfield 117, 3) := by decide +kernel
theorem dX13_goesOn_124 : decode cX13_goesOn 124 = .ok (.imul, 1) := by decide +kernel
theorem dX13_goesOn_125 : decode cX13_goesOn 125 = .ok (.aload_n 0, 1) := by decide +kernel
theorem dX13_goesOn_126 : decode cX13_goesOn 126 = .ok (.aload_n 0, 1) := by decide +kernel
theorem dX13_goesOn_127 : decode cX13_goesOn 127 = .ok (.getfield 95, 3) := by decide +kernel
theorem dX13_goesOn_130 : decode cX13_goesOn 130 = .ok (.invokevirtual 98, 3) := by decide +kernel
theorem dX13_goesOn_133 : decode cX13_goesOn 133 = .ok (.iadd, 1) := by decide +kernel
theorem dX13_goesOn_134 : decode cX13_goesOn 134 = .ok (.bipush 48, 2) := by decide +kernel
theorem dX13_goesOn_136 : decode cX13_goesOn 136 = .ok (.isub, 1) := by decide +kernel
theorem dX13_goesOn_137 : decode cX13_goesOn 137 = .ok (.putfield 117, 3) := by decide +kernel
theorem dX13_goesOn_140 : decode cX13_goesOn 140 = .ok (.iinc 2 1, 3) := by decide +kernel
theorem dX13_goesOn_143 : decode cX13_goesOn 143 = .ok (.aload_n 0, 1) := by decide +kernel
theorem dX13_goesOn_144 : decode cX13_goesOn 144 = .ok (.dup, 1) := by decide +kernel
theorem dX13_goesOn_145 : decode cX13_goesOn 145 = .ok (.getfield 95, 3) := by decide +kernel
theorem dX13_goesOn_148 : decode cX13_goesOn 148 = .ok (.iconst 1, 1) := by decide +kernel
theorem dX13_goesOn_149 : decode cX13_goesOn 149 = .ok (.iadd, 1) := by decide +kernel
theorem dX13_goesOn_150 : decode cX13_goesOn 150 = .ok (.putfield 95, 3) := by decide +kernel
theorem dX13_goesOn_153 : decode cX13_goesOn 153 = .ok (.goto (-55), 3) := by decide +kernel
theorem dX13_goesOn_156 : decode cX13_goesOn 156 = .ok (.iload_n 2, 1) := by decide +kernel
theorem dX13_goesOn_157 : decode cX13_goesOn 157 = .ok (.iconst 3, 1) := by decide +kernel
theorem dX13_goesOn_158 : decode cX13_goesOn 158 = .ok (.if_icmp .gt 43, 3) := by decide +kernel
theorem dX13_goesOn_161 : decode cX13_goesOn 161 = .ok (.aload_n 0, 1) := by decide +kernel
theorem dX13_goesOn_162 : decode cX13_goesOn 162 = .ok (.iconst 3, 1) := by decide +kernel
theorem dX13_goesOn_163 : decode cX13_goesOn 163 = .ok (.putfield 105, 3) := by decide +kernel
theorem dX13_goesOn_166 : decode cX13_goesOn 166 = .ok (.goto 35, 3) := by decide +kernel
theorem dX13_goesOn_169 : decode cX13_goesOn 169 = .ok (.iload_n 1, 1) := by decide +kernel
theorem dX13_goesOn_170 : decode cX13_goesOn 170 = .ok (.bipush 59, 2) := by decide +kernel
theorem dX13_goesOn_172 : decode cX13_goesOn 172 = .ok (.if_icmp .eq 9, 3) := by decide +kernel
theorem dX13_goesOn_175 : decode cX13_goesOn 175 = .ok (.iload_n 1, 1) := by decide +kernel
theorem dX13_goesOn_176 : decode cX13_goesOn 176 = .ok (.bipush 45, 2) := by decide +kernel
theorem dX13_goesOn_178 : decode cX13_goesOn 178 = .ok (.if_icmp .ne 23, 3) := by decide +kernel
theorem dX13_goesOn_181 : decode cX13_goesOn 181 = .ok (.aload_n 0, 1) := by decide +kernel
theorem dX13_goesOn_182 : decode cX13_goesOn 182 = .ok (.iconst 4, 1) := by decide +kernel
theorem dX13_goesOn_183 : decode cX13_goesOn 183 = .ok (.putfield 105, 3) := by decide +kernel
theorem dX13_goesOn_186 : decode cX13_goesOn 186 = .ok (.aload_n 0, 1) := by decide +kernel
theorem dX13_goesOn_187 : decode cX13_goesOn 187 = .ok (.iload_n 1, 1) := by decide +kernel
theorem dX13_goesOn_188 : decode cX13_goesOn 188 = .ok (.putfield 117, 3) := by decide +kernel
theorem dX13_goesOn_191 : decode cX13_goesOn 191 = .ok (.aload_n 0, 1) := by decide +kernel
theorem dX13_goesOn_192 : decode cX13_goesOn 192 = .ok (.dup, 1) := by decide +kernel
theorem dX13_goesOn_193 : decode cX13_goesOn 193 = .ok (.getfield 95, 3) := by decide +kernel
theorem dX13_goesOn_196 : decode cX13_goesOn 196 = .ok (.iconst 1, 1) := by decide +kernel
theorem dX13_goesOn_197 : decode cX13_goesOn 197 = .ok (.iadd, 1) := by decide +kernel
theorem dX13_goesOn_198 : decode cX13_goesOn 198 = .ok (.putfield 95, 3) := by decide +kernel
theorem dX13_goesOn_201 : decode cX13_goesOn 201 = .ok (.return_, 1) := by decide +kernel
theorem dX13_flaw_0 : decode cX13_flaw 0 = .ok (.aload_n 0, 1) := by decide +kernel
theorem dX13_flaw_1 : decode cX13_flaw 1 = .ok (.getfield 105, 3) := by decide +kernel
theorem dX13_flaw_4 : decode cX13_flaw 4 = .ok (.iconst 5, 1) := by decide +kernel
theorem dX13_flaw_5 : decode cX13_flaw 5 = .ok (.if_icmp .ne 4, 3) := by decide +kernel
theorem dX13_flaw_8 : decode cX13_flaw 8 = .ok (.return_, 1) := by decide +kernel
theorem dX13_flaw_9 : decode cX13_flaw 9 = .ok (.aload_n 0, 1) := by decide +kernel
theorem dX13_flaw_10 : decode cX13_flaw 10 = .ok (.iload_n 1, 1) := by decide +kernel
theorem dX13_flaw_11 : decode cX13_flaw 11 = .ok (.putfield 120, 3) := by decide +kernel
theorem dX13_flaw_14 : decode cX13_flaw 14 = .ok (.aload_n 0, 1) := by decide +kernel
theorem dX13_flaw_15 : decode cX13_flaw 15 = .ok (.aload_n 0, 1) := by decide +kernel
theorem dX13_flaw_16 : decode cX13_flaw 16 = .ok (.getfield 108, 3) := by decide +kernel
theorem dX13_flaw_19 : decode cX13_flaw 19 = .ok (.putfield 123, 3) := by decide +kernel
theorem dX13_flaw_22 : decode cX13_flaw 22 = .ok (.aload_n 0, 1) := by decide +kernel
theorem dX13_flaw_23 : decode cX13_flaw 23 = .ok (.iconst 5, 1) := by decide +kernel
theorem dX13_flaw_24 : decode cX13_flaw 24 = .ok (.putfield 105, 3) := by decide +kernel
theorem dX13_flaw_27 : decode cX13_flaw 27 = .ok (.return_, 1) := by decide +kernel
set_option maxRecDepth 20000 in
theorem ggX13_isWord_X13_packed : GoodIn wsX13_isWord wsX13_packed := goodIn_r _ [6, 7, 8, 9, 10, 11, 12, 13, 14, 15, 16, 17, 18, 19, 20, 21, 22, 23, 24, 25, 26, 27, 28, 29, 30, 31, 32, 33, 34, 35, 36, 37, 38, 39, 40, 41, 42, 43, 44, 45, 46, 47, 48, 49, 50, 51, 52, 53, 54, 55, 56] (by decide +kernel) (by decide +kernel)
set_option maxRecDepth 20000 in
theorem gX13_isWord_X13_packed : GoodIn wsX13_isWord (va_wsS RX13 126 yX13_packed wsX13_packed) := goodIn_app (goodIn_of _ (by decide +kernel)) ggX13_isWord_X13_packed
theorem dX13_isWord_0 : decode cX13_isWord 0 = .ok (.aload_n 0, 1) := by decide +kernel
theorem dX13_isWord_1 : decode cX13_isWord 1 = .ok (.getfield 105, 3) := by decide +kernel
theorem dX13_isWord_4 : decode cX13_isWord 4 = .ok (.iconst 2, 1) := by decide +kernel
theorem dX13_isWord_5 : decode cX13_isWord 5 = .ok (.if_icmp .ne 19, 3) := by decide +kernel
theorem dX13_isWord_8 : decode cX13_isWord 8 = .ok (.aload_n 0, 1) := by decide +kernel
theorem dX13_isWord_9 : decode cX13_isWord 9 = .ok (.getfield 81, 3) := by decide +kernel
theorem dX13_isWord_12 : decode cX13_isWord 12 = .ok (.aload_n 1, 1) := by decide +kernel
theorem dX13_isWord_13 : decode cX13_isWord 13 = .ok (.invokestatic 126, 3) := by decide +kernel
theorem dX13_isWord_16 : decode cX13_isWord 16 = .ok (.lcmp, 1) := by decide +kernel
theorem dX13_isWord_17 : decode cX13_isWord 17 = .ok (.ifCond .ne 7, 3) := by decide +kernel
theorem dX13_isWord_20 : decode cX13_isWord 20 = .ok (.iconst 1, 1) := by decide +kernel
theorem dX13_isWord_21 : decode cX13_isWord 21 = .ok (.goto 4, 3) := by decide +kernel
theorem dX13_isWord_24 : decode cX13_isWord 24 = .ok (.iconst 0, 1) := by decide +kernel
theorem dX13_isWord_25 : decode cX13_isWord 25 = .ok (.ireturn, 1) := by decide +kernel
set_option maxRecDepth 20000 in
theorem ggX13_eats_X13_goesOn : GoodIn wsX13_eats wsX13_goesOn := goodIn_r _ [7, 1, 8, 9, 2, 10, 11, 12, 6, 13, 14, 15, 16, 17, 18, 19, 20, 21, 22, 23, 24, 25, 26, 27, 28, 29, 30, 31, 32, 33, 34, 35, 36, 37, 38, 39, 40, 41, 42, 43, 44, 45, 46, 47, 48, 49, 50, 51, 52, 53, 54, 55, 56, 57, 58, 59, 60, 61, 62, 63, 64, 65, 66, 67, 68] (by decide +kernel) (by decide +kernel)
set_option maxRecDepth 20000 in
theorem gX13_eats_X13_goesOn : GoodIn wsX13_eats (wsV RX13 130 RX13 yX13_goesOn wsX13_goesOn) := goodIn_app (goodIn_of _ (by decide +kernel)) ggX13_eats_X13_goesOn
theorem dX13_eats_0 : decode cX13_eats 0 = .ok (.aload_n 0, 1) := by decide +kernel
theorem dX13_eats_1 : decode cX13_eats 1 = .ok (.getfield 105, 3) := by decide +kernel
theorem dX13_eats_4 : decode cX13_eats 4 = .ok (.iconst 4, 1) := by decide +kernel
theorem dX13_eats_5 : decode cX13_eats 5 = .ok (.if_icmp .ne 15, 3) := by decide +kernel
theorem dX13_eats_8 : decode cX13_eats 8 = .ok (.aload_n 0, 1) := by decide +kernel
theorem dX13_eats_9 : decode cX13_eats 9 = .ok (.getfield 117, 3) := by decide +kernel
theorem dX13_eats_12 : decode cX13_eats 12 = .ok (.iload_n 1, 1) := by decide +kernel
theorem dX13_eats_13 : decode cX13_eats 13 = .ok (.if_icmp .ne 7, 3) := by decide +kernel
theorem dX13_eats_16 : decode cX13_eats 16 = .ok (.iconst 1, 1) := by decide +kernel
theorem dX13_eats_17 : decode cX13_eats 17 = .ok (.goto 4, 3) := by decide +kernel
theorem dX13_eats_20 : decode cX13_eats 20 = .ok (.iconst 0, 1) := by decide +kernel
theorem dX13_eats_21 : decode cX13_eats 21 = .ok (.istore_n 2, 1) := by decide +kernel
theorem dX13_eats_22 : decode cX13_eats 22 = .ok (.iload_n 2, 1) := by decide +kernel
theorem dX13_eats_23 : decode cX13_eats 23 = .ok (.ifCond .eq 7, 3) := by decide +kernel
theorem dX13_eats_26 : decode cX13_eats 26 = .ok (.aload_n 0, 1) := by decide +kernel
theorem dX13_eats_27 : decode cX13_eats 27 = .ok (.invokevirtual 130, 3) := by decide +kernel
theorem dX13_eats_30 : decode cX13_eats 30 = .ok (.iload_n 2, 1) := by decide +kernel
theorem dX13_eats_31 : decode cX13_eats 31 = .ok (.ireturn, 1) := by decide +kernel
set_option maxRecDepth 20000 in
theorem ggX13_wholeAt_X13_flaw : GoodIn wsX13_wholeAt wsX13_flaw := goodIn_r _ [7, 1, 8, 9, 10, 14, 15, 16, 17, 18, 19, 20, 21, 22, 23, 24, 25, 26, 27, 28, 29, 30, 31, 32, 33, 34, 35, 36, 37, 38, 39, 40, 41, 42, 43, 44, 45, 46, 47, 48, 49, 50, 51] (by decide +kernel) (by decide +kernel)
set_option maxRecDepth 20000 in
theorem gX13_wholeAt_X13_flaw : GoodIn wsX13_wholeAt (wsV RX13 133 RX13 yX13_flaw wsX13_flaw) := goodIn_app (goodIn_of _ (by decide +kernel)) ggX13_wholeAt_X13_flaw
set_option maxRecDepth 20000 in
theorem ggX13_wholeAt_X13_in : GoodIn wsX13_wholeAt wsX13_in := goodIn_r _ [13] (by decide +kernel) (by decide +kernel)
set_option maxRecDepth 20000 in
theorem gX13_wholeAt_X13_in : GoodIn wsX13_wholeAt (va_wsS RX13 137 yX13_in wsX13_in) := goodIn_app (goodIn_of _ (by decide +kernel)) ggX13_wholeAt_X13_in
theorem dX13_wholeAt_0 : decode cX13_wholeAt 0 = .ok (.aload_n 0, 1) := by decide +kernel
theorem dX13_wholeAt_1 : decode cX13_wholeAt 1 = .ok (.getfield 105, 3) := by decide +kernel
theorem dX13_wholeAt_4 : decode cX13_wholeAt 4 = .ok (.iconst 3, 1) := by decide +kernel
theorem dX13_wholeAt_5 : decode cX13_wholeAt 5 = .ok (.if_icmp .eq 11, 3) := by decide +kernel
theorem dX13_wholeAt_8 : decode cX13_wholeAt 8 = .ok (.aload_n 0, 1) := by decide +kernel
theorem dX13_wholeAt_9 : decode cX13_wholeAt 9 = .ok (.iconst 1, 1) := by decide +kernel
theorem dX13_wholeAt_10 : decode cX13_wholeAt 10 = .ok (.invokevirtual 133, 3) := by decide +kernel
theorem dX13_wholeAt_13 : decode cX13_wholeAt 13 = .ok (.goto 20, 3) := by decide +kernel
theorem dX13_wholeAt_16 : decode cX13_wholeAt 16 = .ok (.aload_n 0, 1) := by decide +kernel
theorem dX13_wholeAt_17 : decode cX13_wholeAt 17 = .ok (.getfield 117, 3) := by decide +kernel
theorem dX13_wholeAt_20 : decode cX13_wholeAt 20 = .ok (.iload_n 1, 1) := by decide +kernel
theorem dX13_wholeAt_21 : decode cX13_wholeAt 21 = .ok (.iload_n 2, 1) := by decide +kernel
theorem dX13_wholeAt_22 : decode cX13_wholeAt 22 = .ok (.invokestatic 137, 3) := by decide +kernel
theorem dX13_wholeAt_25 : decode cX13_wholeAt 25 = .ok (.ifCond .ne 8, 3) := by decide +kernel
theorem dX13_wholeAt_28 : decode cX13_wholeAt 28 = .ok (.aload_n 0, 1) := by decide +kernel
theorem dX13_wholeAt_29 : decode cX13_wholeAt 29 = .ok (.iconst 4, 1) := by decide +kernel
theorem dX13_wholeAt_30 : decode cX13_wholeAt 30 = .ok (.invokevirtual 133, 3) := by decide +kernel
theorem dX13_wholeAt_33 : decode cX13_wholeAt 33 = .ok (.aload_n 0, 1) := by decide +kernel
theorem dX13_wholeAt_34 : decode cX13_wholeAt 34 = .ok (.getfield 105, 3) := by decide +kernel
theorem dX13_wholeAt_37 : decode cX13_wholeAt 37 = .ok (.iconst 5, 1) := by decide +kernel
theorem dX13_wholeAt_38 : decode cX13_wholeAt 38 = .ok (.if_icmp .ne 7, 3) := by decide +kernel
theorem dX13_wholeAt_41 : decode cX13_wholeAt 41 = .ok (.iload_n 1, 1) := by decide +kernel
theorem dX13_wholeAt_42 : decode cX13_wholeAt 42 = .ok (.goto 7, 3) := by decide +kernel
theorem dX13_wholeAt_45 : decode cX13_wholeAt 45 = .ok (.aload_n 0, 1) := by decide +kernel
theorem dX13_wholeAt_46 : decode cX13_wholeAt 46 = .ok (.getfield 117, 3) := by decide +kernel
theorem dX13_wholeAt_49 : decode cX13_wholeAt 49 = .ok (.ireturn, 1) := by decide +kernel
set_option maxRecDepth 20000 in
theorem ggX13_readWhole_X13_wholeAt : GoodIn wsX13_readWhole wsX13_wholeAt := goodIn_r _ [5, 6, 7, 8, 9, 10, 4, 11, 12, 13, 14, 15, 16, 17, 44, 45, 46, 47, 48, 49, 50, 51, 52, 53, 54, 55, 56, 57, 58, 59, 60, 61, 62, 63, 64, 65, 66, 67, 68, 69, 70, 71, 72, 73, 74, 75, 76, 77, 78, 79, 80, 81] (by decide +kernel) (by decide +kernel)
set_option maxRecDepth 20000 in
theorem gX13_readWhole_X13_wholeAt : GoodIn wsX13_readWhole (wsV RX13 141 RX13 yX13_wholeAt wsX13_wholeAt) := goodIn_app (goodIn_of _ (by decide +kernel)) ggX13_readWhole_X13_wholeAt
set_option maxRecDepth 20000 in
theorem ggX13_readWhole_X13_goesOn : GoodIn wsX13_readWhole wsX13_goesOn := goodIn_r _ [21, 6, 22, 13, 7, 23, 24, 25, 4, 26, 27, 28, 29, 30, 31, 32, 33, 34, 35, 36, 37, 38, 39, 40, 41, 42, 43, 44, 45, 46, 47, 48, 49, 50, 51, 52, 53, 54, 55, 56, 57, 58, 59, 60, 61, 62, 63, 64, 65, 66, 67, 68, 69, 70, 71, 72, 73, 74, 75, 76, 77, 78, 79, 80, 81] (by decide +kernel) (by decide +kernel)
set_option maxRecDepth 20000 in
theorem gX13_readWhole_X13_goesOn : GoodIn wsX13_readWhole (wsV RX13 130 RX13 yX13_goesOn wsX13_goesOn) := goodIn_app (goodIn_of _ (by decide +kernel)) ggX13_readWhole_X13_goesOn
theorem dX13_readWhole_0 : decode cX13_readWhole 0 = .ok (.aload_n 0, 1) := by decide +kernel
theorem dX13_readWhole_1 : decode cX13_readWhole 1 = .ok (.iload_n 1, 1) := by decide +kernel
theorem dX13_readWhole_2 : decode cX13_readWhole 2 = .ok (.iload_n 2, 1) := by decide +kernel
theorem dX13_readWhole_3 : decode cX13_readWhole 3 = .ok (.invokevirtual 141, 3) := by decide +kernel
theorem dX13_readWhole_6 : decode cX13_readWhole 6 = .ok (.istore_n 3, 1) := by decide +kernel
theorem dX13_readWhole_7 : decode cX13_readWhole 7 = .ok (.aload_n 0, 1) := by decide +kernel
theorem dX13_readWhole_8 : decode cX13_readWhole 8 = .ok (.invokevirtual 130, 3) := by decide +kernel
theorem dX13_readWhole_11 : decode cX13_readWhole 11 = .ok (.iload_n 3, 1) := by decide +kernel
theorem dX13_readWhole_12 : decode cX13_readWhole 12 = .ok (.ireturn, 1) := by decide +kernel
set_option maxRecDepth 20000 in
theorem ggX13_needs_X13_isWord : GoodIn wsX13_needs wsX13_isWord := goodIn_r _ [5, 6, 7, 8, 9, 4, 10, 11, 12, 13, 14, 15, 16, 17, 18, 19, 20, 21, 22, 23, 24, 25, 26, 27, 28, 29, 30, 31, 32, 33, 34, 35, 36, 37, 38, 39, 40, 41, 42, 43, 44, 45, 46, 47, 48, 49, 50, 51, 52, 53, 54, 55, 56, 57, 58, 59, 60, 93, 94, 95, 96, 97, 98, 99, 100, 101, 102, 103, 104, 105, 106, 107, 108, 109, 110, 111, 112, 113, 114, 115, 116, 117, 118, 119, 120, 121, 122, 123, 124, 125, 126, 127, 128, 129, 130] (by decide +kernel) (by decide +kernel)
set_option maxRecDepth 20000 in
theorem gX13_needs_X13_isWord : GoodIn wsX13_needs (wsV RX13 145 RX13 yX13_isWord wsX13_isWord) := goodIn_app (goodIn_of _ (by decide +kernel)) ggX13_needs_X13_isWord
set_option maxRecDepth 20000 in
theorem ggX13_needs_X13_flaw : GoodIn wsX13_needs wsX13_flaw := goodIn_r _ [64, 6, 65, 66, 67, 93, 94, 95, 96, 97, 98, 99, 100, 101, 102, 103, 104, 105, 106, 107, 108, 109, 110, 111, 112, 113, 114, 115, 116, 117, 118, 119, 120, 121, 122, 123, 124, 125, 126, 127, 128, 129, 130] (by decide +kernel) (by decide +kernel)
set_option maxRecDepth 20000 in
theorem gX13_needs_X13_flaw : GoodIn wsX13_needs (wsV RX13 133 RX13 yX13_flaw wsX13_flaw) := goodIn_app (goodIn_of _ (by decide +kernel)) ggX13_needs_X13_flaw
set_option maxRecDepth 20000 in
theorem ggX13_needs_X13_goesOn : GoodIn wsX13_needs wsX13_goesOn := goodIn_r _ [71, 6, 72, 66, 73, 74, 75, 76, 4, 77, 78, 79, 80, 81, 82, 83, 84, 85, 86, 7, 87, 88, 89, 11, 90, 91, 92, 93, 94, 95, 96, 97, 98, 99, 100, 101, 102, 103, 104, 105, 106, 107, 108, 109, 110, 111, 112, 113, 114, 115, 116, 117, 118, 119, 120, 121, 122, 123, 124, 125, 126, 127, 128, 129, 130] (by decide +kernel) (by decide +kernel)
set_option maxRecDepth 20000 in
theorem gX13_needs_X13_goesOn : GoodIn wsX13_needs (wsV RX13 130 RX13 yX13_goesOn wsX13_goesOn) := goodIn_app (goodIn_of _ (by decide +kernel)) ggX13_needs_X13_goesOn
theorem dX13_needs_0 : decode cX13_needs 0 = .ok (.aload_n 0, 1) := by decide +kernel
theorem dX13_needs_1 : decode cX13_needs 1 = .ok (.aload_n 1, 1) := by decide +kernel
theorem dX13_needs_2 : decode cX13_needs 2 = .ok (.invokevirtual 145, 3) := by decide +kernel
theorem dX13_needs_5 : decode cX13_needs 5 = .ok (.ifCond .ne 8, 3) := by decide +kernel
theorem dX13_needs_8 : decode cX13_needs 8 = .ok (.aload_n 0, 1) := by decide +kernel
theorem dX13_needs_9 : decode cX13_needs 9 = .ok (.iconst 1, 1) := by decide +kernel
theorem dX13_needs_10 : decode cX13_needs 10 = .ok (.invokevirtual 133, 3) := by decide +kernel
theorem dX13_needs_13 : decode cX13_needs 13 = .ok (.aload_n 0, 1) := by decide +kernel
theorem dX13_needs_14 : decode cX13_needs 14 = .ok (.invokevirtual 130, 3) := by decide +kernel
theorem dX13_needs_17 : decode cX13_needs 17 = .ok (.return_, 1) := by decide +kernel
set_option maxRecDepth 20000 in
theorem ggX13_readNumber_X13_needs : GoodIn wsX13_readNumber wsX13_needs := goodIn_r _ [5, 6, 7, 8, 4, 9, 10, 11, 12, 13, 14, 15, 16, 17, 18, 19, 20, 21, 22, 23, 24, 25, 26, 27, 28, 29, 30, 31, 32, 33, 34, 35, 36, 37, 38, 39, 40, 41, 42, 43, 44, 45, 46, 47, 48, 49, 50, 51, 52, 53, 54, 55, 56, 57, 58, 59, 60, 61, 62, 63, 64, 65, 66, 67, 68, 69, 70, 71, 72, 73, 74, 75, 76, 77, 78, 79, 80, 81, 82, 83, 84, 85, 86, 87, 88, 89, 90, 91, 92, 93, 94, 95, 96, 112, 113, 114, 115, 116, 117, 118, 119, 120, 121, 122, 123, 124, 125, 126, 127, 128, 129, 130, 131, 132, 133, 134, 135, 136, 137, 138, 139, 140, 141, 142, 143, 144, 145, 146, 147, 148, 149] (by decide +kernel) (by decide +kernel)
set_option maxRecDepth 20000 in
theorem gX13_readNumber_X13_needs : GoodIn wsX13_readNumber (wsV RX13 149 RX13 yX13_needs wsX13_needs) := goodIn_app (goodIn_of _ (by decide +kernel)) ggX13_readNumber_X13_needs
set_option maxRecDepth 20000 in
theorem ggX13_readNumber_X13_eats : GoodIn wsX13_readNumber wsX13_eats := goodIn_r _ [100, 10, 77, 72, 73, 74, 4, 75, 76, 70, 78, 79, 80, 81, 82, 83, 84, 85, 86, 87, 88, 89, 90, 11, 91, 92, 93, 15, 94, 95, 96, 112, 113, 114, 115, 116, 117, 118, 119, 120, 121, 122, 123, 124, 125, 126, 127, 128, 129, 130, 131, 132, 133, 134, 135, 136, 137, 138, 139, 140, 141, 142, 143, 144, 145, 146, 147, 148, 149] (by decide +kernel) (by decide +kernel)
set_option maxRecDepth 20000 in
theorem gX13_readNumber_X13_eats : GoodIn wsX13_readNumber (wsV RX13 153 RX13 yX13_eats wsX13_eats) := goodIn_app (goodIn_of _ (by decide +kernel)) ggX13_readNumber_X13_eats
set_option maxRecDepth 20000 in
theorem ggX13_readNumber_X13_readWhole : GoodIn wsX13_readNumber wsX13_readWhole := goodIn_r _ [104, 105, 106, 107, 4, 108, 10, 77, 65, 66, 67, 68, 69, 70, 71, 109, 110, 111, 72, 73, 74, 75, 76, 78, 79, 80, 81, 82, 83, 84, 85, 86, 87, 88, 89, 90, 11, 91, 92, 93, 15, 94, 95, 96, 112, 113, 114, 115, 116, 117, 118, 119, 120, 121, 122, 123, 124, 125, 126, 127, 128, 129, 130, 131, 132, 133, 134, 135, 136, 137, 138, 139, 140, 141, 142, 143, 144, 145, 146, 147, 148, 149] (by decide +kernel) (by decide +kernel)
set_option maxRecDepth 20000 in
theorem gX13_readNumber_X13_readWhole : GoodIn wsX13_readNumber (wsV RX13 156 RX13 yX13_readWhole wsX13_readWhole) := goodIn_app (goodIn_of _ (by decide +kernel)) ggX13_readNumber_X13_readWhole
theorem dX13_readNumber_0 : decode cX13_readNumber 0 = .ok (.aload_n 0, 1) := by decide +kernel
theorem dX13_readNumber_1 : decode cX13_readNumber 1 = .ok (.aload_n 1, 1) := by decide +kernel
theorem dX13_readNumber_2 : decode cX13_readNumber 2 = .ok (.invokevirtual 149, 3) := by decide +kernel
theorem dX13_readNumber_5 : decode cX13_readNumber 5 = .ok (.aload_n 0, 1) := by decide +kernel
theorem dX13_readNumber_6 : decode cX13_readNumber 6 = .ok (.bipush 45, 2) := by decide +kernel
theorem dX13_readNumber_8 : decode cX13_readNumber 8 = .ok (.invokevirtual 153, 3) := by decide +kernel
theorem dX13_readNumber_11 : decode cX13_readNumber 11 = .ok (.istore_n 2, 1) := by decide +kernel
theorem dX13_readNumber_12 : decode cX13_readNumber 12 = .ok (.aload_n 0, 1) := by decide +kernel
theorem dX13_readNumber_13 : decode cX13_readNumber 13 = .ok (.iconst 0, 1) := by decide +kernel
theorem dX13_readNumber_14 : decode cX13_readNumber 14 = .ok (.bipush 99, 2) := by decide +kernel
theorem dX13_readNumber_16 : decode cX13_readNumber 16 = .ok (.invokevirtual 156, 3) := by decide +kernel
theorem dX13_readNumber_19 : decode cX13_readNumber 19 = .ok (.istore_n 3, 1) := by decide +kernel
theorem dX13_readNumber_20 : decode cX13_readNumber 20 = .ok (.iload_n 2, 1) := by decide +kernel
theorem dX13_readNumber_21 : decode cX13_readNumber 21 = .ok (.ifCond .eq 8, 3) := by decide +kernel
theorem dX13_readNumber_24 : decode cX13_readNumber 24 = .ok (.iload_n 3, 1) := by decide +kernel
theorem dX13_readNumber_25 : decode cX13_readNumber 25 = .ok (.ineg, 1) := by decide +kernel
theorem dX13_readNumber_26 : decode cX13_readNumber 26 = .ok (.goto 4, 3) := by decide +kernel
theorem dX13_readNumber_29 : decode cX13_readNumber 29 = .ok (.iload_n 3, 1) := by decide +kernel
theorem dX13_readNumber_30 : decode cX13_readNumber 30 = .ok (.ireturn, 1) := by decide +kernel
set_option maxRecDepth 20000 in
theorem ggX13_isName_X13_isWord : GoodIn wsX13_isName wsX13_isWord := goodIn_r _ [7, 1, 8, 9, 10, 6, 11, 12, 13, 14, 15, 16, 17, 18, 19, 20, 21, 22, 23, 24, 25, 26, 27, 28, 29, 30, 31, 32, 33, 34, 35, 36, 37, 38, 39, 40, 41, 42, 43, 44, 45, 46, 47, 48, 49, 50, 51, 52, 53, 54, 55, 56, 57, 58, 59, 60, 61, 62, 63, 64, 65, 66, 67, 68, 69, 70, 71, 72, 73, 74, 75, 76, 77, 78, 79, 80, 81, 82, 83, 84, 85, 86, 87, 88, 89, 90, 91, 92, 93, 94, 95, 96, 97, 98, 99] (by decide +kernel) (by decide +kernel)
set_option maxRecDepth 20000 in
theorem gX13_isName_X13_isWord : GoodIn wsX13_isName (wsV RX13 145 RX13 yX13_isWord wsX13_isWord) := goodIn_app (goodIn_of _ (by decide +kernel)) ggX13_isName_X13_isWord
theorem dX13_isName_0 : decode cX13_isName 0 = .ok (.aload_n 0, 1) := by decide +kernel
theorem dX13_isName_1 : decode cX13_isName 1 = .ok (.getfield 105, 3) := by decide +kernel
theorem dX13_isName_4 : decode cX13_isName 4 = .ok (.iconst 2, 1) := by decide +kernel
theorem dX13_isName_5 : decode cX13_isName 5 = .ok (.if_icmp .ne 52, 3) := by decide +kernel
theorem dX13_isName_8 : decode cX13_isName 8 = .ok (.aload_n 0, 1) := by decide +kernel
theorem dX13_isName_9 : decode cX13_isName 9 = .ok (.getfield 85, 3) := by decide +kernel
theorem dX13_isName_12 : decode cX13_isName 12 = .ok (.bipush 8, 2) := by decide +kernel
theorem dX13_isName_14 : decode cX13_isName 14 = .ok (.if_icmp .gt 43, 3) := by decide +kernel
theorem dX13_isName_17 : decode cX13_isName 17 = .ok (.aload_n 0, 1) := by decide +kernel
theorem dX13_isName_18 : decode cX13_isName 18 = .ok (.ldc 159, 2) := by decide +kernel
theorem dX13_isName_20 : decode cX13_isName 20 = .ok (.invokevirtual 145, 3) := by decide +kernel
theorem dX13_isName_23 : decode cX13_isName 23 = .ok (.ifCond .ne 34, 3) := by decide +kernel
theorem dX13_isName_26 : decode cX13_isName 26 = .ok (.aload_n 0, 1) := by decide +kernel
theorem dX13_isName_27 : decode cX13_isName 27 = .ok (.ldc 161, 2) := by decide +kernel
theorem dX13_isName_29 : decode cX13_isName 29 = .ok (.invokevirtual 145, 3) := by decide +kernel
theorem dX13_isName_32 : decode cX13_isName 32 = .ok (.ifCond .ne 25, 3) := by decide +kernel
theorem dX13_isName_35 : decode cX13_isName 35 = .ok (.aload_n 0, 1) := by decide +kernel
theorem dX13_isName_36 : decode cX13_isName 36 = .ok (.ldc 163, 2) := by decide +kernel
theorem dX13_isName_38 : decode cX13_isName 38 = .ok (.invokevirtual 145, 3) := by decide +kernel
theorem dX13_isName_41 : decode cX13_isName 41 = .ok (.ifCond .ne 16, 3) := by decide +kernel
theorem dX13_isName_44 : decode cX13_isName 44 = .ok (.aload_n 0, 1) := by decide +kernel
theorem dX13_isName_45 : decode cX13_isName 45 = .ok (.ldc 165, 2) := by decide +kernel
theorem dX13_isName_47 : decode cX13_isName 47 = .ok (.invokevirtual 145, 3) := by decide +kernel
theorem dX13_isName_50 : decode cX13_isName 50 = .ok (.ifCond .ne 7, 3) := by decide +kernel
theorem dX13_isName_53 : decode cX13_isName 53 = .ok (.iconst 1, 1) := by decide +kernel
theorem dX13_isName_54 : decode cX13_isName 54 = .ok (.goto 4, 3) := by decide +kernel
theorem dX13_isName_57 : decode cX13_isName 57 = .ok (.iconst 0, 1) := by decide +kernel
theorem dX13_isName_58 : decode cX13_isName 58 = .ok (.ireturn, 1) := by decide +kernel
set_option maxRecDepth 20000 in
theorem ggX13_lineBegins_X13_flaw : GoodIn wsX13_lineBegins wsX13_flaw := goodIn_r _ [6, 7, 8, 9, 10, 38, 39, 40, 41, 42, 43, 44, 45, 46, 47, 48, 49, 50, 51, 52, 53, 54, 55, 56, 57, 58, 59, 60, 61, 62, 63, 64, 65, 66, 67, 68, 69, 70, 71, 72, 73, 74, 75] (by decide +kernel) (by decide +kernel)
set_option maxRecDepth 20000 in
theorem gX13_lineBegins_X13_flaw : GoodIn wsX13_lineBegins (wsV RX13 133 RX13 yX13_flaw wsX13_flaw) := goodIn_app (goodIn_of _ (by decide +kernel)) ggX13_lineBegins_X13_flaw
set_option maxRecDepth 20000 in
theorem ggX13_lineBegins_X13_goesOn : GoodIn wsX13_lineBegins wsX13_goesOn := goodIn_r _ [14, 7, 15, 9, 16, 17, 18, 19, 5, 20, 21, 22, 23, 24, 25, 26, 27, 28, 29, 30, 31, 32, 33, 34, 35, 36, 37, 38, 39, 40, 41, 42, 43, 44, 45, 46, 47, 48, 49, 50, 51, 52, 53, 54, 55, 56, 57, 58, 59, 60, 61, 62, 63, 64, 65, 66, 67, 68, 69, 70, 71, 72, 73, 74, 75] (by decide +kernel) (by decide +kernel)
set_option maxRecDepth 20000 in
theorem gX13_lineBegins_X13_goesOn : GoodIn wsX13_lineBegins (wsV RX13 130 RX13 yX13_goesOn wsX13_goesOn) := goodIn_app (goodIn_of _ (by decide +kernel)) ggX13_lineBegins_X13_goesOn
theorem dX13_lineBegins_0 : decode cX13_lineBegins 0 = .ok (.iload_n 1, 1) := by decide +kernel
theorem dX13_lineBegins_1 : decode cX13_lineBegins 1 = .ok (.iload_n 2, 1) := by decide +kernel
theorem dX13_lineBegins_2 : decode cX13_lineBegins 2 = .ok (.if_icmp .ne 8, 3) := by decide +kernel
theorem dX13_lineBegins_5 : decode cX13_lineBegins 5 = .ok (.aload_n 0, 1) := by decide +kernel
theorem dX13_lineBegins_6 : decode cX13_lineBegins 6 = .ok (.iconst 5, 1) := by decide +kernel
theorem dX13_lineBegins_7 : decode cX13_lineBegins 7 = .ok (.invokevirtual 133, 3) := by decide +kernel
theorem dX13_lineBegins_10 : decode cX13_lineBegins 10 = .ok (.aload_n 0, 1) := by decide +kernel
theorem dX13_lineBegins_11 : decode cX13_lineBegins 11 = .ok (.getfield 167, 3) := by decide +kernel
theorem dX13_lineBegins_14 : decode cX13_lineBegins 14 = .ok (.getfield 171, 3) := by decide +kernel
theorem dX13_lineBegins_17 : decode cX13_lineBegins 17 = .ok (.ifCond .ne 9, 3) := by decide +kernel
theorem dX13_lineBegins_20 : decode cX13_lineBegins 20 = .ok (.aload_n 0, 1) := by decide +kernel
theorem dX13_lineBegins_21 : decode cX13_lineBegins 21 = .ok (.bipush 6, 2) := by decide +kernel
theorem dX13_lineBegins_23 : decode cX13_lineBegins 23 = .ok (.invokevirtual 133, 3) := by decide +kernel
theorem dX13_lineBegins_26 : decode cX13_lineBegins 26 = .ok (.aload_n 0, 1) := by decide +kernel
theorem dX13_lineBegins_27 : decode cX13_lineBegins 27 = .ok (.invokevirtual 130, 3) := by decide +kernel
theorem dX13_lineBegins_30 : decode cX13_lineBegins 30 = .ok (.return_, 1) := by decide +kernel
set_option maxRecDepth 20000 in
theorem ggX13_readStack_X13_isName : GoodIn wsX13_readStack wsX13_isName := goodIn_r _ [8, 3, 9, 10, 11, 12, 7, 13, 2, 14, 15, 16, 17, 18, 19, 20, 21, 22, 23, 24, 25, 26, 27, 28, 29, 30, 31, 32, 33, 34, 35, 36, 37, 38, 39, 40, 41, 42, 43, 44, 45, 46, 47, 48, 49, 50, 51, 52, 53, 54, 55, 56, 57, 58, 59, 60, 61, 62, 63, 64, 65, 66, 105, 106, 107, 108, 109, 110, 111, 112, 113, 114, 115, 116, 117, 118, 119, 120, 121, 122, 123, 124, 125, 126, 127, 128, 129, 130, 131, 132, 133, 134, 135, 136, 137, 138, 139, 140, 141, 142] (by decide +kernel) (by decide +kernel)
set_option maxRecDepth 20000 in
theorem gX13_readStack_X13_isName : GoodIn wsX13_readStack (wsV RX13 176 RX13 yX13_isName wsX13_isName) := goodIn_app (goodIn_of _ (by decide +kernel)) ggX13_readStack_X13_isName
set_option maxRecDepth 20000 in
theorem ggX13_readStack_X13_flaw : GoodIn wsX13_readStack wsX13_flaw := goodIn_r _ [70, 3, 71, 72, 73, 105, 106, 107, 108, 109, 110, 111, 112, 113, 114, 115, 116, 117, 118, 119, 120, 121, 122, 123, 124, 125, 126, 127, 128, 129, 130, 131, 132, 133, 134, 135, 136, 137, 138, 139, 140, 141, 142] (by decide +kernel) (by decide +kernel)
set_option maxRecDepth 20000 in
theorem gX13_readStack_X13_flaw : GoodIn wsX13_readStack (wsV RX13 133 RX13 yX13_flaw wsX13_flaw) := goodIn_app (goodIn_of _ (by decide +kernel)) ggX13_readStack_X13_flaw
set_option maxRecDepth 20000 in
theorem ggX13_readStack_X12_find : GoodIn wsX13_readStack wsX12_find := goodIn_r _ [78, 79, 80, 143, 144, 145, 146, 147, 148, 149, 150, 151, 152, 153, 154, 155, 156, 157, 158] (by decide +kernel) (by decide +kernel)
set_option maxRecDepth 20000 in
theorem gX13_readStack_X12_find : GoodIn wsX13_readStack (wsV RX13 180 RX12 yX12_find wsX12_find) := goodIn_app (goodIn_of _ (by decide +kernel)) ggX13_readStack_X12_find
set_option maxRecDepth 20000 in
theorem ggX13_readStack_X13_goesOn : GoodIn wsX13_readStack wsX13_goesOn := goodIn_r _ [84, 3, 85, 72, 86, 87, 88, 89, 7, 90, 91, 92, 93, 94, 95, 96, 97, 98, 99, 2, 9, 100, 101, 17, 102, 103, 104, 105, 106, 107, 108, 109, 110, 111, 112, 113, 114, 115, 116, 117, 118, 119, 120, 121, 122, 123, 124, 125, 126, 127, 128, 129, 130, 131, 132, 133, 134, 135, 136, 137, 138, 139, 140, 141, 142] (by decide +kernel) (by decide +kernel)
set_option maxRecDepth 20000 in
theorem gX13_readStack_X13_goesOn : GoodIn wsX13_readStack (wsV RX13 130 RX13 yX13_goesOn wsX13_goesOn) := goodIn_app (goodIn_of _ (by decide +kernel)) ggX13_readStack_X13_goesOn
theorem dX13_readStack_0 : decode cX13_readStack 0 = .ok (.aload_n 0, 1) := by decide +kernel
theorem dX13_readStack_1 : decode cX13_readStack 1 = .ok (.invokevirtual 176, 3) := by decide +kernel
theorem dX13_readStack_4 : decode cX13_readStack 4 = .ok (.ifCond .ne 8, 3) := by decide +kernel
theorem dX13_readStack_7 : decode cX13_readStack 7 = .ok (.aload_n 0, 1) := by decide +kernel
theorem dX13_readStack_8 : decode cX13_readStack 8 = .ok (.iconst 1, 1) := by decide +kernel
theorem dX13_readStack_9 : decode cX13_readStack 9 = .ok (.invokevirtual 133, 3) := by decide +kernel
theorem dX13_readStack_12 : decode cX13_readStack 12 = .ok (.aload_n 0, 1) := by decide +kernel
theorem dX13_readStack_13 : decode cX13_readStack 13 = .ok (.getfield 167, 3) := by decide +kernel
theorem dX13_readStack_16 : decode cX13_readStack 16 = .ok (.aload_n 0, 1) := by decide +kernel
theorem dX13_readStack_17 : decode cX13_readStack 17 = .ok (.getfield 81, 3) := by decide +kernel
theorem dX13_readStack_20 : decode cX13_readStack 20 = .ok (.invokevirtual 180, 3) := by decide +kernel
theorem dX13_readStack_23 : decode cX13_readStack 23 = .ok (.istore_n 1, 1) := by decide +kernel
theorem dX13_readStack_24 : decode cX13_readStack 24 = .ok (.iload_n 1, 1) := by decide +kernel
theorem dX13_readStack_25 : decode cX13_readStack 25 = .ok (.iconst (-1), 1) := by decide +kernel
theorem dX13_readStack_26 : decode cX13_readStack 26 = .ok (.if_icmp .ne 8, 3) := by decide +kernel
theorem dX13_readStack_29 : decode cX13_readStack 29 = .ok (.aload_n 0, 1) := by decide +kernel
theorem dX13_readStack_30 : decode cX13_readStack 30 = .ok (.iconst 2, 1) := by decide +kernel
theorem dX13_readStack_31 : decode cX13_readStack 31 = .ok (.invokevirtual 133, 3) := by decide +kernel
theorem dX13_readStack_34 : decode cX13_readStack 34 = .ok (.aload_n 0, 1) := by decide +kernel
theorem dX13_readStack_35 : decode cX13_readStack 35 = .ok (.getfield 105, 3) := by decide +kernel
theorem dX13_readStack_38 : decode cX13_readStack 38 = .ok (.iconst 5, 1) := by decide +kernel
theorem dX13_readStack_39 : decode cX13_readStack 39 = .ok (.if_icmp .ne 5, 3) := by decide +kernel
theorem dX13_readStack_42 : decode cX13_readStack 42 = .ok (.iconst 0, 1) := by decide +kernel
theorem dX13_readStack_43 : decode cX13_readStack 43 = .ok (.istore_n 1, 1) := by decide +kernel
theorem dX13_readStack_44 : decode cX13_readStack 44 = .ok (.aload_n 0, 1) := by decide +kernel
theorem dX13_readStack_45 : decode cX13_readStack 45 = .ok (.invokevirtual 130, 3) := by decide +kernel
theorem dX13_readStack_48 : decode cX13_readStack 48 = .ok (.iload_n 1, 1) := by decide +kernel
theorem dX13_readStack_49 : decode cX13_readStack 49 = .ok (.ireturn, 1) := by decide +kernel
set_option maxRecDepth 20000 in
theorem ggX13_readAll_X13_readLine : GoodIn wsX13_readAll wsX13_readLine := goodIn_r _ [7, 8, 9, 10, 6, 11, 1, 12, 13, 14, 15, 16, 17, 18, 19, 20, 21, 22, 23, 24, 25, 26, 27, 28, 29, 30, 31, 32, 33, 34, 35, 36, 37, 38, 39, 40, 41, 42, 43, 44, 45, 46, 47, 48, 49, 50, 51, 52, 53, 54, 55, 56, 57, 58, 59, 60, 61, 62, 63, 64, 65, 66, 67, 68, 69, 2, 70, 71, 72, 73, 74, 75, 76, 77, 78, 79, 80, 81, 82, 83, 84, 85, 86, 87, 88, 89, 90, 91, 92, 93, 94, 95, 96, 97, 98, 99, 100, 101, 102, 103, 104, 105, 106, 107, 108, 109, 110, 111, 112, 113, 114, 115, 116, 117, 118, 119, 120, 121, 122, 123, 124, 125, 126, 127, 128, 129, 130, 131, 132, 133, 134, 135, 136, 137, 138, 139, 140, 141, 142, 143, 144, 145, 146, 147, 148, 149, 150, 151, 152, 153, 154, 155, 156, 157, 158, 159, 160, 161, 162, 163, 164, 165, 166, 167, 168, 169, 170, 171, 172, 173, 174, 175, 176, 177, 178, 179, 180, 181, 182, 183, 184, 185, 186, 187, 188, 189, 190, 191, 192, 193, 194, 195, 196, 197, 198, 199, 200, 201, 202, 203, 204, 205, 206, 207, 208, 209, 210, 211, 212, 213, 214, 215, 216, 217, 218, 219, 220, 221, 222, 223] (by decide +kernel) (by decide +kernel)
set_option maxRecDepth 20000 in
theorem gX13_readAll_X13_readLine : GoodIn wsX13_readAll (wsV RX13 184 RX13 yX13_readLine wsX13_readLine) := goodIn_app (goodIn_of _ (by decide +kernel)) ggX13_readAll_X13_readLine
set_option maxRecDepth 20000 in
theorem ggX13_readAll_X13_eats : GoodIn wsX13_readAll wsX13_eats := goodIn_r _ [113, 1, 82, 77, 78, 79, 6, 80, 81, 75, 83, 84, 85, 86, 87, 88, 89, 90, 91, 92, 93, 94, 95, 12, 96, 97, 98, 16, 99, 100, 101, 170, 171, 172, 173, 174, 175, 176, 177, 178, 179, 180, 181, 182, 183, 184, 185, 186, 187, 188, 189, 190, 191, 192, 193, 194, 195, 196, 197, 198, 199, 200, 201, 202, 203, 204, 205, 206, 207] (by decide +kernel) (by decide +kernel)
set_option maxRecDepth 20000 in
theorem gX13_readAll_X13_eats : GoodIn wsX13_readAll (wsV RX13 153 RX13 yX13_eats wsX13_eats) := goodIn_app (goodIn_of _ (by decide +kernel)) ggX13_readAll_X13_eats
set_option maxRecDepth 20000 in
theorem ggX13_readAll_X13_flaw : GoodIn wsX13_readAll wsX13_flaw := goodIn_r _ [73, 1, 74, 75, 76, 170, 171, 172, 173, 174, 175, 176, 177, 178, 179, 180, 181, 182, 183, 184, 185, 186, 187, 188, 189, 190, 191, 192, 193, 194, 195, 196, 197, 198, 199, 200, 201, 202, 203, 204, 205, 206, 207] (by decide +kernel) (by decide +kernel)
set_option maxRecDepth 20000 in
theorem gX13_readAll_X13_flaw : GoodIn wsX13_readAll (wsV RX13 133 RX13 yX13_flaw wsX13_flaw) := goodIn_app (goodIn_of _ (by decide +kernel)) ggX13_readAll_X13_flaw
theorem dX13_readAll_0 : decode cX13_readAll 0 = .ok (.iconst 1, 1) := by decide +kernel
theorem dX13_readAll_1 : decode cX13_readAll 1 = .ok (.istore_n 1, 1) := by decide +kernel
theorem dX13_readAll_2 : decode cX13_readAll 2 = .ok (.iload_n 1, 1) := by decide +kernel
theorem dX13_readAll_3 : decode cX13_readAll 3 = .ok (.ifCond .eq 17, 3) := by decide +kernel
theorem dX13_readAll_6 : decode cX13_readAll 6 = .ok (.aload_n 0, 1) := by decide +kernel
theorem dX13_readAll_7 : decode cX13_readAll 7 = .ok (.invokevirtual 184, 3) := by decide +kernel
theorem dX13_readAll_10 : decode cX13_readAll 10 = .ok (.aload_n 0, 1) := by decide +kernel
theorem dX13_readAll_11 : decode cX13_readAll 11 = .ok (.bipush 59, 2) := by decide +kernel
theorem dX13_readAll_13 : decode cX13_readAll 13 = .ok (.invokevirtual 153, 3) := by decide +kernel
theorem dX13_readAll_16 : decode cX13_readAll 16 = .ok (.istore_n 1, 1) := by decide +kernel
theorem dX13_readAll_17 : decode cX13_readAll 17 = .ok (.goto (-15), 3) := by decide +kernel
theorem dX13_readAll_20 : decode cX13_readAll 20 = .ok (.aload_n 0, 1) := by decide +kernel
theorem dX13_readAll_21 : decode cX13_readAll 21 = .ok (.getfield 105, 3) := by decide +kernel
theorem dX13_readAll_24 : decode cX13_readAll 24 = .ok (.iconst 1, 1) := by decide +kernel
theorem dX13_readAll_25 : decode cX13_readAll 25 = .ok (.if_icmp .eq 8, 3) := by decide +kernel
theorem dX13_readAll_28 : decode cX13_readAll 28 = .ok (.aload_n 0, 1) := by decide +kernel
theorem dX13_readAll_29 : decode cX13_readAll 29 = .ok (.iconst 1, 1) := by decide +kernel
theorem dX13_readAll_30 : decode cX13_readAll 30 = .ok (.invokevirtual 133, 3) := by decide +kernel
theorem dX13_readAll_33 : decode cX13_readAll 33 = .ok (.aload_n 0, 1) := by decide +kernel
theorem dX13_readAll_34 : decode cX13_readAll 34 = .ok (.getfield 167, 3) := by decide +kernel
theorem dX13_readAll_37 : decode cX13_readAll 37 = .ok (.getfield 187, 3) := by decide +kernel
theorem dX13_readAll_40 : decode cX13_readAll 40 = .ok (.ifCond .ne 9, 3) := by decide +kernel
theorem dX13_readAll_43 : decode cX13_readAll 43 = .ok (.aload_n 0, 1) := by decide +kernel
theorem dX13_readAll_44 : decode cX13_readAll 44 = .ok (.bipush 6, 2) := by decide +kernel
theorem dX13_readAll_46 : decode cX13_readAll 46 = .ok (.invokevirtual 133, 3) := by decide +kernel
theorem dX13_readAll_49 : decode cX13_readAll 49 = .ok (.return_, 1) := by decide +kernel
set_option maxRecDepth 20000 in
theorem ggX13_readLine_X13_isWord : GoodIn wsX13_readLine wsX13_isWord := goodIn_r _ [5, 6, 7, 8, 9, 4, 10, 11, 12, 13, 14, 15, 16, 17, 18, 19, 20, 21, 22, 23, 24, 25, 26, 27, 28, 29, 30, 31, 32, 33, 34, 35, 36, 37, 38, 39, 40, 41, 42, 43, 44, 45, 46, 47, 48, 49, 50, 51, 52, 53, 54, 55, 56, 57, 58, 59, 60, 166, 167, 168, 169, 170, 171, 172, 173, 174, 175, 176, 177, 178, 179, 180, 181, 182, 183, 184, 185, 186, 187, 188, 189, 190, 191, 192, 193, 194, 195, 196, 197, 198, 199, 200, 201, 202, 203] (by decide +kernel) (by decide +kernel)
set_option maxRecDepth 20000 in
theorem gX13_readLine_X13_isWord : GoodIn wsX13_readLine (wsV RX13 145 RX13 yX13_isWord wsX13_isWord) := goodIn_app (goodIn_of _ (by decide +kernel)) ggX13_readLine_X13_isWord
set_option maxRecDepth 20000 in
theorem ggX13_readLine_X13_readLab : GoodIn wsX13_readLine wsX13_readLab := goodIn_r _ [64, 65, 6, 66, 67, 68, 4, 69, 70, 71, 72, 73, 74, 75, 76, 77, 78, 79, 80, 81, 82, 83, 84, 85, 86, 87, 88, 89, 90, 91, 7, 92, 93, 94, 11, 95, 96, 97, 98, 99, 100, 101, 102, 103, 104, 105, 1, 2, 3, 5, 8, 9, 10, 12, 13, 14, 15, 16, 17, 18, 19, 20, 21, 22, 23, 24, 25, 26, 27, 28, 29, 30, 31, 32, 33, 34, 35, 36, 37, 38, 39, 40, 41, 42, 43, 44, 45, 46, 47, 48, 49, 50, 51, 52, 53, 54, 55, 56, 57, 58, 59, 60, 106, 107, 108, 109, 110, 111, 112, 113, 114, 115, 116, 117, 118, 119, 120, 166, 167, 168, 169, 170, 171, 172, 173, 174, 175, 176, 177, 178, 179, 180, 181, 182, 183, 184, 185, 186, 187, 188, 189, 190, 191, 192, 193, 194, 195, 196, 197, 198, 199, 200, 201, 202, 203, 204, 205, 206, 207, 208, 209, 210, 211, 212, 213, 214, 215, 216, 217, 218, 219] (by decide +kernel) (by decide +kernel)
set_option maxRecDepth 20000 in
theorem gX13_readLine_X13_readLab : GoodIn wsX13_readLine (wsV RX13 190 RX13 yX13_readLab wsX13_readLab) := goodIn_app (goodIn_of _ (by decide +kernel)) ggX13_readLine_X13_readLab
set_option maxRecDepth 20000 in
theorem ggX13_readLine_X13_readAStack : GoodIn wsX13_readLine wsX13_readAStack := goodIn_r _ [124, 65, 7, 6, 94, 92, 93, 125, 126, 127, 4, 128, 66, 67, 68, 69, 70, 71, 72, 73, 74, 75, 76, 77, 78, 79, 80, 81, 82, 83, 84, 85, 86, 87, 88, 89, 90, 91, 11, 95, 96, 97, 129, 130, 131, 132, 1, 2, 3, 5, 8, 9, 10, 12, 13, 14, 15, 16, 17, 18, 19, 20, 21, 22, 23, 24, 25, 26, 27, 28, 29, 30, 31, 32, 33, 34, 35, 36, 37, 38, 39, 40, 41, 42, 43, 44, 45, 46, 47, 48, 49, 50, 51, 52, 53, 54, 55, 56, 57, 58, 59, 60, 133, 134, 135, 136, 137, 138, 139, 166, 167, 168, 169, 170, 171, 172, 173, 174, 175, 176, 177, 178, 179, 180, 181, 182, 183, 184, 185, 186, 187, 188, 189, 190, 191, 192, 193, 194, 195, 196, 197, 198, 199, 200, 201, 202, 203, 204, 205, 206, 207, 208, 209, 210, 211, 212, 213, 214, 215, 216, 217, 218, 219] (by decide +kernel) (by decide +kernel)
set_option maxRecDepth 20000 in
theorem gX13_readLine_X13_readAStack : GoodIn wsX13_readLine (wsV RX13 193 RX13 yX13_readAStack wsX13_readAStack) := goodIn_app (goodIn_of _ (by decide +kernel)) ggX13_readLine_X13_readAStack
set_option maxRecDepth 20000 in
theorem ggX13_readLine_X13_readUnsure : GoodIn wsX13_readLine wsX13_readUnsure := goodIn_r _ [143, 65, 6, 125, 126, 127, 4, 128, 66, 67, 68, 69, 70, 71, 72, 73, 74, 75, 76, 77, 78, 79, 80, 81, 82, 83, 84, 85, 86, 87, 88, 89, 90, 91, 7, 92, 93, 94, 11, 95, 96, 97, 144, 145, 146, 147, 129, 130, 131, 132, 1, 2, 3, 5, 8, 9, 10, 12, 13, 14, 15, 16, 17, 18, 19, 20, 21, 22, 23, 24, 25, 26, 27, 28, 29, 30, 31, 32, 33, 34, 35, 36, 37, 38, 39, 40, 41, 42, 43, 44, 45, 46, 47, 48, 49, 50, 51, 52, 53, 54, 55, 56, 57, 58, 59, 60, 133, 134, 135, 136, 137, 138, 139, 114, 115, 116, 117, 118, 119, 120, 148, 149, 150, 151, 152, 153, 154, 166, 167, 168, 169, 170, 171, 172, 173, 174, 175, 176, 177, 178, 179, 180, 181, 182, 183, 184, 185, 186, 187, 188, 189, 190, 191, 192, 193, 194, 195, 196, 197, 198, 199, 200, 201, 202, 203, 204, 205, 206, 207, 208, 209, 210, 211, 212, 213, 214, 215, 216, 217, 218, 219] (by decide +kernel) (by decide +kernel)
set_option maxRecDepth 20000 in
theorem gX13_readLine_X13_readUnsure : GoodIn wsX13_readLine (wsV RX13 196 RX13 yX13_readUnsure wsX13_readUnsure) := goodIn_app (goodIn_of _ (by decide +kernel)) ggX13_readLine_X13_readUnsure
set_option maxRecDepth 20000 in
theorem ggX13_readLine_X13_readAgreed : GoodIn wsX13_readLine wsX13_readAgreed := goodIn_r _ [158, 65, 6, 125, 126, 127, 4, 128, 66, 67, 68, 69, 70, 71, 72, 73, 74, 75, 76, 77, 78, 79, 80, 81, 82, 83, 84, 85, 86, 87, 88, 89, 90, 91, 7, 92, 93, 94, 11, 95, 96, 97, 144, 145, 146, 147, 129, 130, 131, 132, 1, 2, 3, 5, 8, 9, 10, 12, 13, 14, 15, 16, 17, 18, 19, 20, 21, 22, 23, 24, 25, 26, 27, 28, 29, 30, 31, 32, 33, 34, 35, 36, 37, 38, 39, 40, 41, 42, 43, 44, 45, 46, 47, 48, 49, 50, 51, 52, 53, 54, 55, 56, 57, 58, 59, 60, 133, 134, 135, 136, 137, 138, 139, 114, 115, 116, 117, 118, 119, 120, 159, 160, 161, 162, 163, 164, 165, 110, 111, 112, 113, 166, 167, 168, 169, 170, 171, 172, 173, 174, 175, 176, 177, 178, 179, 180, 181, 182, 183, 184, 185, 186, 187, 188, 189, 190, 191, 192, 193, 194, 195, 196, 197, 198, 199, 200, 201, 202, 203, 204, 205, 206, 207, 208, 209, 210, 211, 212, 213, 214, 215, 216, 217, 218, 219] (by decide +kernel) (by decide +kernel)
set_option maxRecDepth 20000 in
theorem gX13_readLine_X13_readAgreed : GoodIn wsX13_readLine (wsV RX13 199 RX13 yX13_readAgreed wsX13_readAgreed) := goodIn_app (goodIn_of _ (by decide +kernel)) ggX13_readLine_X13_readAgreed
set_option maxRecDepth 20000 in
theorem ggX13_readLine_X13_flaw : GoodIn wsX13_readLine wsX13_flaw := goodIn_r _ [69, 6, 70, 71, 72, 166, 167, 168, 169, 170, 171, 172, 173, 174, 175, 176, 177, 178, 179, 180, 181, 182, 183, 184, 185, 186, 187, 188, 189, 190, 191, 192, 193, 194, 195, 196, 197, 198, 199, 200, 201, 202, 203] (by decide +kernel) (by decide +kernel)
set_option maxRecDepth 20000 in
theorem gX13_readLine_X13_flaw : GoodIn wsX13_readLine (wsV RX13 133 RX13 yX13_flaw wsX13_flaw) := goodIn_app (goodIn_of _ (by decide +kernel)) ggX13_readLine_X13_flaw
theorem dX13_readLine_0 : decode cX13_readLine 0 = .ok (.aload_n 0, 1) := by decide +kernel
theorem dX13_readLine_1 : decode cX13_readLine 1 = .ok (.ldc 159, 2) := by decide +kernel
theorem dX13_readLine_3 : decode cX13_readLine 3 = .ok (.invokevirtual 145, 3) := by decide +kernel
theorem dX13_readLine_6 : decode cX13_readLine 6 = .ok (.ifCond .eq 10, 3) := by decide +kernel
theorem dX13_readLine_9 : decode cX13_readLine 9 = .ok (.aload_n 0, 1) := by decide +kernel
theorem dX13_readLine_10 : decode cX13_readLine 10 = .ok (.invokevirtual 190, 3) := by decide +kernel
theorem dX13_readLine_13 : decode cX13_readLine 13 = .ok (.goto 56, 3) := by decide +kernel
theorem dX13_readLine_16 : decode cX13_readLine 16 = .ok (.aload_n 0, 1) := by decide +kernel
theorem dX13_readLine_17 : decode cX13_readLine 17 = .ok (.ldc 161, 2) := by decide +kernel
theorem dX13_readLine_19 : decode cX13_readLine 19 = .ok (.invokevirtual 145, 3) := by decide +kernel
theorem dX13_readLine_22 : decode cX13_readLine 22 = .ok (.ifCond .eq 10, 3) := by decide +kernel
theorem dX13_readLine_25 : decode cX13_readLine 25 = .ok (.aload_n 0, 1) := by decide +kernel
theorem dX13_readLine_26 : decode cX13_readLine 26 = .ok (.invokevirtual 193, 3) := by decide +kernel
theorem dX13_readLine_29 : decode cX13_readLine 29 = .ok (.goto 40, 3) := by decide +kernel
theorem dX13_readLine_32 : decode cX13_readLine 32 = .ok (.aload_n 0, 1) := by decide +kernel
theorem dX13_readLine_33 : decode cX13_readLine 33 = .ok (.ldc 163, 2) := by decide +kernel
theorem dX13_readLine_35 : decode cX13_readLine 35 = .ok (.invokevirtual 145, 3) := by decide +kernel
theorem dX13_readLine_38 : decode cX13_readLine 38 = .ok (.ifCond .eq 10, 3) := by decide +kernel
theorem dX13_readLine_41 : decode cX13_readLine 41 = .ok (.aload_n 0, 1) := by decide +kernel
theorem dX13_readLine_42 : decode cX13_readLine 42 = .ok (.invokevirtual 196, 3) := by decide +kernel
theorem dX13_readLine_45 : decode cX13_readLine 45 = .ok (.goto 24, 3) := by decide +kernel
theorem dX13_readLine_48 : decode cX13_readLine 48 = .ok (.aload_n 0, 1) := by decide +kernel
theorem dX13_readLine_49 : decode cX13_readLine 49 = .ok (.ldc 165, 2) := by decide +kernel
theorem dX13_readLine_51 : decode cX13_readLine 51 = .ok (.invokevirtual 145, 3) := by decide +kernel
theorem dX13_readLine_54 : decode cX13_readLine 54 = .ok (.ifCond .eq 10, 3) := by decide +kernel
theorem dX13_readLine_57 : decode cX13_readLine 57 = .ok (.aload_n 0, 1) := by decide +kernel
theorem dX13_readLine_58 : decode cX13_readLine 58 = .ok (.invokevirtual 199, 3) := by decide +kernel
theorem dX13_readLine_61 : decode cX13_readLine 61 = .ok (.goto 8, 3) := by decide +kernel
theorem dX13_readLine_64 : decode cX13_readLine 64 = .ok (.aload_n 0, 1) := by decide +kernel
theorem dX13_readLine_65 : decode cX13_readLine 65 = .ok (.iconst 1, 1) := by decide +kernel
theorem dX13_readLine_66 : decode cX13_readLine 66 = .ok (.invokevirtual 133, 3) := by decide +kernel
theorem dX13_readLine_69 : decode cX13_readLine 69 = .ok (.return_, 1) := by decide +kernel
set_option maxRecDepth 20000 in
theorem ggX13_readLab_X13_flaw : GoodIn wsX13_readLab wsX13_flaw := goodIn_r _ [7, 2, 8, 9, 10, 117, 118, 119, 120, 121, 122, 123, 124, 125, 126, 127, 128, 129, 130, 131, 132, 133, 134, 135, 136, 137, 138, 139, 140, 141, 142, 143, 144, 145, 146, 147, 148, 149, 150, 151, 152, 153, 154] (by decide +kernel) (by decide +kernel)
set_option maxRecDepth 20000 in
theorem gX13_readLab_X13_flaw : GoodIn wsX13_readLab (wsV RX13 133 RX13 yX13_flaw wsX13_flaw) := goodIn_app (goodIn_of _ (by decide +kernel)) ggX13_readLab_X13_flaw
set_option maxRecDepth 20000 in
theorem ggX13_readLab_X13_goesOn : GoodIn wsX13_readLab wsX13_goesOn := goodIn_r _ [14, 2, 15, 9, 16, 17, 18, 19, 6, 20, 21, 22, 23, 24, 25, 26, 27, 28, 29, 30, 31, 32, 33, 34, 35, 36, 37, 117, 118, 119, 120, 121, 122, 123, 124, 125, 126, 127, 128, 129, 130, 131, 132, 133, 134, 135, 136, 137, 138, 139, 140, 141, 142, 143, 144, 145, 146, 147, 148, 149, 150, 151, 152, 153, 154] (by decide +kernel) (by decide +kernel)
set_option maxRecDepth 20000 in
theorem gX13_readLab_X13_goesOn : GoodIn wsX13_readLab (wsV RX13 130 RX13 yX13_goesOn wsX13_goesOn) := goodIn_app (goodIn_of _ (by decide +kernel)) ggX13_readLab_X13_goesOn
set_option maxRecDepth 20000 in
theorem ggX13_readLab_X13_readNumber : GoodIn wsX13_readLab wsX13_readNumber := goodIn_r _ [41, 42, 43, 44, 6, 45, 46, 47, 48, 49, 2, 30, 50, 51, 52, 34, 53, 54, 55, 56, 57, 58, 59, 60, 61, 62, 63, 64, 65, 66, 67, 68, 69, 70, 71, 72, 73, 74, 75, 76, 77, 78, 79, 80, 81, 82, 83, 84, 85, 86, 87, 88, 89, 90, 91, 92, 93, 94, 95, 96, 97, 98, 99, 100, 101, 3, 4, 5, 7, 8, 9, 10, 11, 12, 13, 14, 15, 16, 17, 18, 19, 20, 21, 22, 23, 24, 25, 26, 27, 28, 29, 31, 32, 33, 35, 36, 37, 102, 103, 104, 105, 106, 107, 108, 109, 110, 111, 112, 113, 114, 115, 116, 117, 118, 119, 120, 121, 122, 123, 124, 125, 126, 127, 128, 129, 130, 131, 132, 133, 134, 135, 136, 137, 138, 139, 140, 141, 142, 143, 144, 145, 146, 147, 148, 149, 150, 151, 152, 153, 154] (by decide +kernel) (by decide +kernel)
set_option maxRecDepth 20000 in
theorem gX13_readLab_X13_readNumber : GoodIn wsX13_readLab (wsV RX13 204 RX13 yX13_readNumber wsX13_readNumber) := goodIn_app (goodIn_of _ (by decide +kernel)) ggX13_readLab_X13_readNumber
set_option maxRecDepth 20000 in
theorem ggX13_readLab_X13_needs : GoodIn wsX13_readLab wsX13_needs := goodIn_r _ [45, 46, 47, 48, 6, 49, 2, 30, 50, 51, 52, 34, 53, 54, 55, 56, 57, 58, 59, 60, 61, 62, 63, 64, 65, 66, 67, 68, 69, 70, 71, 72, 73, 74, 75, 76, 77, 78, 79, 80, 81, 82, 83, 84, 85, 86, 87, 88, 89, 90, 91, 92, 93, 94, 95, 96, 97, 98, 99, 100, 101, 3, 4, 5, 7, 8, 9, 10, 11, 12, 13, 14, 15, 16, 17, 18, 19, 20, 21, 22, 23, 24, 25, 26, 27, 28, 29, 31, 32, 33, 35, 36, 37, 117, 118, 119, 120, 121, 122, 123, 124, 125, 126, 127, 128, 129, 130, 131, 132, 133, 134, 135, 136, 137, 138, 139, 140, 141, 142, 143, 144, 145, 146, 147, 148, 149, 150, 151, 152, 153, 154] (by decide +kernel) (by decide +kernel)
set_option maxRecDepth 20000 in
theorem gX13_readLab_X13_needs : GoodIn wsX13_readLab (wsV RX13 149 RX13 yX13_needs wsX13_needs) := goodIn_app (goodIn_of _ (by decide +kernel)) ggX13_readLab_X13_needs
set_option maxRecDepth 20000 in
theorem ggX13_readLab_X13_readWhole : GoodIn wsX13_readLab wsX13_readWhole := goodIn_r _ [109, 110, 111, 112, 6, 113, 2, 16, 3, 4, 5, 7, 8, 9, 10, 114, 115, 116, 11, 12, 13, 14, 15, 17, 18, 19, 20, 21, 22, 23, 24, 25, 26, 27, 28, 29, 30, 31, 32, 33, 34, 35, 36, 37, 117, 118, 119, 120, 121, 122, 123, 124, 125, 126, 127, 128, 129, 130, 131, 132, 133, 134, 135, 136, 137, 138, 139, 140, 141, 142, 143, 144, 145, 146, 147, 148, 149, 150, 151, 152, 153, 154] (by decide +kernel) (by decide +kernel)
set_option maxRecDepth 20000 in
theorem gX13_readLab_X13_readWhole : GoodIn wsX13_readLab (wsV RX13 156 RX13 yX13_readWhole wsX13_readWhole) := goodIn_app (goodIn_of _ (by decide +kernel)) ggX13_readLab_X13_readWhole
theorem dX13_readLab_0 : decode cX13_readLab 0 = .ok (.aload_n 0, 1) := by decide +kernel
theorem dX13_readLab_1 : decode cX13_readLab 1 = .ok (.getfield 167, 3) := by decide +kernel
theorem dX13_readLab_4 : decode cX13_readLab 4 = .ok (.getfield 171, 3) := by decide +kernel
theorem dX13_readLab_7 : decode cX13_readLab 7 = .ok (.ifCond .eq 8, 3) := by decide +kernel
theorem dX13_readLab_10 : decode cX13_readLab 10 = .ok (.aload_n 0, 1) := by decide +kernel
theorem dX13_readLab_11 : decode cX13_readLab 11 = .ok (.iconst 3, 1) := by decide +kernel
theorem dX13_readLab_12 : decode cX13_readLab 12 = .ok (.invokevirtual 133, 3) := by decide +kernel
theorem dX13_readLab_15 : decode cX13_readLab 15 = .ok (.aload_n 0, 1) := by decide +kernel
theorem dX13_readLab_16 : decode cX13_readLab 16 = .ok (.invokevirtual 130, 3) := by decide +kernel
theorem dX13_readLab_19 : decode cX13_readLab 19 = .ok (.aload_n 0, 1) := by decide +kernel
theorem dX13_readLab_20 : decode cX13_readLab 20 = .ok (.ldc 202, 2) := by decide +kernel
theorem dX13_readLab_22 : decode cX13_readLab 22 = .ok (.invokevirtual 204, 3) := by decide +kernel
theorem dX13_readLab_25 : decode cX13_readLab 25 = .ok (.istore_n 1, 1) := by decide +kernel
theorem dX13_readLab_26 : decode cX13_readLab 26 = .ok (.aload_n 0, 1) := by decide +kernel
theorem dX13_readLab_27 : decode cX13_readLab 27 = .ok (.ldc 208, 2) := by decide +kernel
theorem dX13_readLab_29 : decode cX13_readLab 29 = .ok (.invokevirtual 204, 3) := by decide +kernel
theorem dX13_readLab_32 : decode cX13_readLab 32 = .ok (.istore_n 2, 1) := by decide +kernel
theorem dX13_readLab_33 : decode cX13_readLab 33 = .ok (.aload_n 0, 1) := by decide +kernel
theorem dX13_readLab_34 : decode cX13_readLab 34 = .ok (.ldc 210, 2) := by decide +kernel
theorem dX13_readLab_36 : decode cX13_readLab 36 = .ok (.invokevirtual 204, 3) := by decide +kernel
theorem dX13_readLab_39 : decode cX13_readLab 39 = .ok (.istore_n 3, 1) := by decide +kernel
theorem dX13_readLab_40 : decode cX13_readLab 40 = .ok (.aload_n 0, 1) := by decide +kernel
theorem dX13_readLab_41 : decode cX13_readLab 41 = .ok (.ldc 212, 2) := by decide +kernel
theorem dX13_readLab_43 : decode cX13_readLab 43 = .ok (.invokevirtual 149, 3) := by decide +kernel
theorem dX13_readLab_46 : decode cX13_readLab 46 = .ok (.aload_n 0, 1) := by decide +kernel
theorem dX13_readLab_47 : decode cX13_readLab 47 = .ok (.iconst 0, 1) := by decide +kernel
theorem dX13_readLab_48 : decode cX13_readLab 48 = .ok (.bipush 100, 2) := by decide +kernel
theorem dX13_readLab_50 : decode cX13_readLab 50 = .ok (.invokevirtual 156, 3) := by decide +kernel
theorem dX13_readLab_53 : decode cX13_readLab 53 = .ok (.istore 4, 2) := by decide +kernel
theorem dX13_readLab_55 : decode cX13_readLab 55 = .ok (.aload_n 0, 1) := by decide +kernel
theorem dX13_readLab_56 : decode cX13_readLab 56 = .ok (.getfield 105, 3) := by decide +kernel
theorem dX13_readLab_59 : decode cX13_readLab 59 = .ok (.iconst 5, 1) := by decide +kernel
theorem dX13_readLab_60 : decode cX13_readLab 60 = .ok (.if_icmp .ne 4, 3) := by decide +kernel
theorem dX13_readLab_63 : decode cX13_readLab 63 = .ok (.return_, 1) := by decide +kernel
theorem dX13_readLab_64 : decode cX13_readLab 64 = .ok (.aload_n 0, 1) := by decide +kernel
theorem dX13_readLab_65 : decode cX13_readLab 65 = .ok (.getfield 167, 3) := by decide +kernel
theorem dX13_readLab_68 : decode cX13_readLab 68 = .ok (.iconst 1, 1) := by decide +kernel
theorem dX13_readLab_69 : decode cX13_readLab 69 = .ok (.putfield 171, 3) := by decide +kernel
theorem dX13_readLab_72 : decode cX13_readLab 72 = .ok (.aload_n 0, 1) := by decide +kernel
theorem dX13_readLab_73 : decode cX13_readLab 73 = .ok (.getfield 167, 3) := by decide +kernel
theorem dX13_readLab_76 : decode cX13_readLab 76 = .ok (.iload_n 1, 1) := by decide +kernel
theorem dX13_readLab_77 : decode cX13_readLab 77 = .ok (.putfield 214, 3) := by decide +kernel
theorem dX13_readLab_80 : decode cX13_readLab 80 = .ok (.aload_n 0, 1) := by decide +kernel
theorem dX13_readLab_81 : decode cX13_readLab 81 = .ok (.getfield 167, 3) := by decide +kernel
theorem dX13_readLab_84 : decode cX13_readLab 84 = .ok (.iload_n 2, 1) := by decide +kernel
theorem dX13_readLab_85 : decode cX13_readLab 85 = .ok (.putfield 216, 3) := by decide +kernel
theorem dX13_readLab_88 : decode cX13_readLab 88 = .ok (.aload_n 0, 1) := by decide +kernel
theorem dX13_readLab_89 : decode cX13_readLab 89 = .ok (.getfield 167, 3) := by decide +kernel
theorem dX13_readLab_92 : decode cX13_readLab 92 = .ok (.iload_n 3, 1) := by decide +kernel
theorem dX13_readLab_93 : decode cX13_readLab 93 = .ok (.putfield 218, 3) := by decide +kernel
theorem dX13_readLab_96 : decode cX13_readLab 96 = .ok (.aload_n 0, 1) := by decide +kernel
theorem dX13_readLab_97 : decode cX13_readLab 97 = .ok (.getfield 167, 3) := by decide +kernel
theorem dX13_readLab_100 : decode cX13_readLab 100 = .ok (.iload 4, 2) := by decide +kernel
theorem dX13_readLab_102 : decode cX13_readLab 102 = .ok (.putfield 220, 3) := by decide +kernel
theorem dX13_readLab_105 : decode cX13_readLab 105 = .ok (.return_, 1) := by decide +kernel
set_option maxRecDepth 20000 in
theorem ggX13_readAStack_X13_lineBegins : GoodIn wsX13_readAStack wsX13_lineBegins := goodIn_r _ [11, 1, 12, 13, 14, 10, 15, 3, 16, 17, 18, 19, 20, 21, 22, 23, 24, 25, 26, 27, 28, 29, 30, 31, 32, 33, 34, 35, 36, 37, 2, 5, 6, 4, 38, 39, 40, 41, 109, 110, 111, 112, 113, 114, 115, 116, 117, 118, 119, 120, 121, 122, 123, 124, 125, 126, 127, 128, 129, 130, 131, 132, 133, 134, 135, 136, 137, 138, 139, 140, 141, 142, 143, 144, 145, 146, 147, 148, 149, 150, 151, 152, 153, 154, 155, 156, 157, 158, 159, 160, 161, 162] (by decide +kernel) (by decide +kernel)
set_option maxRecDepth 20000 in
theorem gX13_readAStack_X13_lineBegins : GoodIn wsX13_readAStack (wsV RX13 222 RX13 yX13_lineBegins wsX13_lineBegins) := goodIn_app (goodIn_of _ (by decide +kernel)) ggX13_readAStack_X13_lineBegins
set_option maxRecDepth 20000 in
theorem ggX13_readAStack_X13_isName : GoodIn wsX13_readAStack wsX13_isName := goodIn_r _ [45, 3, 5, 46, 47, 48, 10, 49, 2, 50, 51, 52, 38, 53, 54, 55, 56, 57, 58, 59, 60, 61, 62, 63, 64, 65, 66, 67, 68, 69, 70, 71, 72, 73, 74, 75, 76, 77, 78, 79, 80, 81, 82, 83, 84, 85, 86, 87, 88, 89, 90, 91, 92, 93, 94, 95, 96, 97, 98, 99, 100, 101, 109, 110, 111, 112, 113, 114, 115, 116, 117, 118, 119, 120, 121, 122, 123, 124, 125, 126, 127, 128, 129, 130, 131, 132, 133, 134, 135, 136, 137, 138, 139, 140, 141, 142, 143, 144, 145, 146] (by decide +kernel) (by decide +kernel)
set_option maxRecDepth 20000 in
theorem gX13_readAStack_X13_isName : GoodIn wsX13_readAStack (wsV RX13 176 RX13 yX13_isName wsX13_isName) := goodIn_app (goodIn_of _ (by decide +kernel)) ggX13_readAStack_X13_isName
set_option maxRecDepth 20000 in
theorem ggX13_readAStack_X13_flaw : GoodIn wsX13_readAStack wsX13_flaw := goodIn_r _ [15, 3, 16, 17, 18, 109, 110, 111, 112, 113, 114, 115, 116, 117, 118, 119, 120, 121, 122, 123, 124, 125, 126, 127, 128, 129, 130, 131, 132, 133, 134, 135, 136, 137, 138, 139, 140, 141, 142, 143, 144, 145, 146] (by decide +kernel) (by decide +kernel)
set_option maxRecDepth 20000 in
theorem gX13_readAStack_X13_flaw : GoodIn wsX13_readAStack (wsV RX13 133 RX13 yX13_flaw wsX13_flaw) := goodIn_app (goodIn_of _ (by decide +kernel)) ggX13_readAStack_X13_flaw
set_option maxRecDepth 20000 in
theorem ggX13_readAStack_X12_find : GoodIn wsX13_readAStack wsX12_find := goodIn_r _ [106, 107, 108, 147, 148, 149, 150, 151, 152, 153, 154, 155, 156, 157, 158, 159, 160, 161, 162] (by decide +kernel) (by decide +kernel)
set_option maxRecDepth 20000 in
theorem gX13_readAStack_X12_find : GoodIn wsX13_readAStack (wsV RX13 180 RX12 yX12_find wsX12_find) := goodIn_app (goodIn_of _ (by decide +kernel)) ggX13_readAStack_X12_find
set_option maxRecDepth 20000 in
theorem ggX13_readAStack_X13_goesOn : GoodIn wsX13_readAStack wsX13_goesOn := goodIn_r _ [22, 3, 23, 17, 24, 25, 26, 27, 10, 28, 29, 30, 31, 32, 33, 34, 35, 36, 37, 2, 5, 6, 4, 38, 39, 40, 41, 109, 110, 111, 112, 113, 114, 115, 116, 117, 118, 119, 120, 121, 122, 123, 124, 125, 126, 127, 128, 129, 130, 131, 132, 133, 134, 135, 136, 137, 138, 139, 140, 141, 142, 143, 144, 145, 146] (by decide +kernel) (by decide +kernel)
set_option maxRecDepth 20000 in
theorem gX13_readAStack_X13_goesOn : GoodIn wsX13_readAStack (wsV RX13 130 RX13 yX13_goesOn wsX13_goesOn) := goodIn_app (goodIn_of _ (by decide +kernel)) ggX13_readAStack_X13_goesOn
theorem dX13_readAStack_0 : decode cX13_readAStack 0 = .ok (.aload_n 0, 1) := by decide +kernel
theorem dX13_readAStack_1 : decode cX13_readAStack 1 = .ok (.aload_n 0, 1) := by decide +kernel
theorem dX13_readAStack_2 : decode cX13_readAStack 2 = .ok (.getfield 167, 3) := by decide +kernel
theorem dX13_readAStack_5 : decode cX13_readAStack 5 = .ok (.getfield 187, 3) := by decide +kernel
theorem dX13_readAStack_8 : decode cX13_readAStack 8 = .ok (.iconst 5, 1) := by decide +kernel
theorem dX13_readAStack_9 : decode cX13_readAStack 9 = .ok (.invokevirtual 222, 3) := by decide +kernel
theorem dX13_readAStack_12 : decode cX13_readAStack 12 = .ok (.aload_n 0, 1) := by decide +kernel
theorem dX13_readAStack_13 : decode cX13_readAStack 13 = .ok (.invokevirtual 176, 3) := by decide +kernel
theorem dX13_readAStack_16 : decode cX13_readAStack 16 = .ok (.ifCond .ne 8, 3) := by decide +kernel
theorem dX13_readAStack_19 : decode cX13_readAStack 19 = .ok (.aload_n 0, 1) := by decide +kernel
theorem dX13_readAStack_20 : decode cX13_readAStack 20 = .ok (.iconst 1, 1) := by decide +kernel
theorem dX13_readAStack_21 : decode cX13_readAStack 21 = .ok (.invokevirtual 133, 3) := by decide +kernel
theorem dX13_readAStack_24 : decode cX13_readAStack 24 = .ok (.aload_n 0, 1) := by decide +kernel
theorem dX13_readAStack_25 : decode cX13_readAStack 25 = .ok (.getfield 167, 3) := by decide +kernel
theorem dX13_readAStack_28 : decode cX13_readAStack 28 = .ok (.aload_n 0, 1) := by decide +kernel
theorem dX13_readAStack_29 : decode cX13_readAStack 29 = .ok (.getfield 81, 3) := by decide +kernel
theorem dX13_readAStack_32 : decode cX13_readAStack 32 = .ok (.invokevirtual 180, 3) := by decide +kernel
theorem dX13_readAStack_35 : decode cX13_readAStack 35 = .ok (.iconst (-1), 1) := by decide +kernel
theorem dX13_readAStack_36 : decode cX13_readAStack 36 = .ok (.if_icmp .eq 8, 3) := by decide +kernel
theorem dX13_readAStack_39 : decode cX13_readAStack 39 = .ok (.aload_n 0, 1) := by decide +kernel
theorem dX13_readAStack_40 : decode cX13_readAStack 40 = .ok (.iconst 3, 1) := by decide +kernel
theorem dX13_readAStack_41 : decode cX13_readAStack 41 = .ok (.invokevirtual 133, 3) := by decide +kernel
theorem dX13_readAStack_44 : decode cX13_readAStack 44 = .ok (.aload_n 0, 1) := by decide +kernel
theorem dX13_readAStack_45 : decode cX13_readAStack 45 = .ok (.getfield 81, 3) := by decide +kernel
theorem dX13_readAStack_48 : decode cX13_readAStack 48 = .ok (.lstore_n 1, 1) := by decide +kernel
theorem dX13_readAStack_49 : decode cX13_readAStack 49 = .ok (.aload_n 0, 1) := by decide +kernel
theorem dX13_readAStack_50 : decode cX13_readAStack 50 = .ok (.invokevirtual 130, 3) := by decide +kernel
theorem dX13_readAStack_53 : decode cX13_readAStack 53 = .ok (.aload_n 0, 1) := by decide +kernel
theorem dX13_readAStack_54 : decode cX13_readAStack 54 = .ok (.getfield 105, 3) := by decide +kernel
theorem dX13_readAStack_57 : decode cX13_readAStack 57 = .ok (.iconst 2, 1) := by decide +kernel
theorem dX13_readAStack_58 : decode cX13_readAStack 58 = .ok (.if_icmp .eq 11, 3) := by decide +kernel
theorem dX13_readAStack_61 : decode cX13_readAStack 61 = .ok (.aload_n 0, 1) := by decide +kernel
theorem dX13_readAStack_62 : decode cX13_readAStack 62 = .ok (.iconst 1, 1) := by decide +kernel
theorem dX13_readAStack_63 : decode cX13_readAStack 63 = .ok (.invokevirtual 133, 3) := by decide +kernel
theorem dX13_readAStack_66 : decode cX13_readAStack 66 = .ok (.goto 24, 3) := by decide +kernel
theorem dX13_readAStack_69 : decode cX13_readAStack 69 = .ok (.aload_n 0, 1) := by decide +kernel
theorem dX13_readAStack_70 : decode cX13_readAStack 70 = .ok (.getfield 91, 3) := by decide +kernel
theorem dX13_readAStack_73 : decode cX13_readAStack 73 = .ok (.ifCond .eq 11, 3) := by decide +kernel
theorem dX13_readAStack_76 : decode cX13_readAStack 76 = .ok (.aload_n 0, 1) := by decide +kernel
theorem dX13_readAStack_77 : decode cX13_readAStack 77 = .ok (.getfield 85, 3) := by decide +kernel
theorem dX13_readAStack_80 : decode cX13_readAStack 80 = .ok (.iconst 2, 1) := by decide +kernel
theorem dX13_readAStack_81 : decode cX13_readAStack 81 = .ok (.if_icmp .ge 9, 3) := by decide +kernel
theorem dX13_readAStack_84 : decode cX13_readAStack 84 = .ok (.aload_n 0, 1) := by decide +kernel
theorem dX13_readAStack_85 : decode cX13_readAStack 85 = .ok (.bipush 7, 2) := by decide +kernel
theorem dX13_readAStack_87 : decode cX13_readAStack 87 = .ok (.invokevirtual 133, 3) := by decide +kernel
theorem dX13_readAStack_90 : decode cX13_readAStack 90 = .ok (.aload_n 0, 1) := by decide +kernel
theorem dX13_readAStack_91 : decode cX13_readAStack 91 = .ok (.getfield 88, 3) := by decide +kernel
theorem dX13_readAStack_94 : decode cX13_readAStack 94 = .ok (.istore_n 3, 1) := by decide +kernel
theorem dX13_readAStack_95 : decode cX13_readAStack 95 = .ok (.aload_n 0, 1) := by decide +kernel
theorem dX13_readAStack_96 : decode cX13_readAStack 96 = .ok (.getfield 85, 3) := by decide +kernel
theorem dX13_readAStack_99 : decode cX13_readAStack 99 = .ok (.istore 4, 2) := by decide +kernel
theorem dX13_readAStack_101 : decode cX13_readAStack 101 = .ok (.aload_n 0, 1) := by decide +kernel
theorem dX13_readAStack_102 : decode cX13_readAStack 102 = .ok (.invokevirtual 130, 3) := by decide +kernel
theorem dX13_readAStack_105 : decode cX13_readAStack 105 = .ok (.aload_n 0, 1) := by decide +kernel
theorem dX13_readAStack_106 : decode cX13_readAStack 106 = .ok (.getfield 105, 3) := by decide +kernel
theorem dX13_readAStack_109 : decode cX13_readAStack 109 = .ok (.iconst 5, 1) := by decide +kernel
theorem dX13_readAStack_110 : decode cX13_readAStack 110 = .ok (.if_icmp .ne 4, 3) := by decide +kernel
theorem dX13_readAStack_113 : decode cX13_readAStack 113 = .ok (.return_, 1) := by decide +kernel
theorem dX13_readAStack_114 : decode cX13_readAStack 114 = .ok (.aload_n 0, 1) := by decide +kernel
theorem dX13_readAStack_115 : decode cX13_readAStack 115 = .ok (.getfield 167, 3) := by decide +kernel
theorem dX13_readAStack_118 : decode cX13_readAStack 118 = .ok (.getfield 226, 3) := by decide +kernel
theorem dX13_readAStack_121 : decode cX13_readAStack 121 = .ok (.aload_n 0, 1) := by decide +kernel
theorem dX13_readAStack_122 : decode cX13_readAStack 122 = .ok (.getfield 167, 3) := by decide +kernel
theorem dX13_readAStack_125 : decode cX13_readAStack 125 = .ok (.getfield 187, 3) := by decide +kernel
theorem dX13_readAStack_128 : decode cX13_readAStack 128 = .ok (.lload_n 1, 1) := by decide +kernel
theorem dX13_readAStack_129 : decode cX13_readAStack 129 = .ok (.lastore, 1) := by decide +kernel
theorem dX13_readAStack_130 : decode cX13_readAStack 130 = .ok (.aload_n 0, 1) := by decide +kernel
theorem dX13_readAStack_131 : decode cX13_readAStack 131 = .ok (.getfield 167, 3) := by decide +kernel
theorem dX13_readAStack_134 : decode cX13_readAStack 134 = .ok (.getfield 230, 3) := by decide +kernel
theorem dX13_readAStack_137 : decode cX13_readAStack 137 = .ok (.aload_n 0, 1) := by decide +kernel
theorem dX13_readAStack_138 : decode cX13_readAStack 138 = .ok (.getfield 167, 3) := by decide +kernel
theorem dX13_readAStack_141 : decode cX13_readAStack 141 = .ok (.getfield 187, 3) := by decide +kernel
theorem dX13_readAStack_144 : decode cX13_readAStack 144 = .ok (.iload_n 3, 1) := by decide +kernel
theorem dX13_readAStack_145 : decode cX13_readAStack 145 = .ok (.iastore, 1) := by decide +kernel
theorem dX13_readAStack_146 : decode cX13_readAStack 146 = .ok (.aload_n 0, 1) := by decide +kernel
theorem dX13_readAStack_147 : decode cX13_readAStack 147 = .ok (.getfield 167, 3) := by decide +kernel
theorem dX13_readAStack_150 : decode cX13_readAStack 150 = .ok (.getfield 233, 3) := by decide +kernel
theorem dX13_readAStack_153 : decode cX13_readAStack 153 = .ok (.aload_n 0, 1) := by decide +kernel
theorem dX13_readAStack_154 : decode cX13_readAStack 154 = .ok (.getfield 167, 3) := by decide +kernel
theorem dX13_readAStack_157 : decode cX13_readAStack 157 = .ok (.getfield 187, 3) := by decide +kernel
theorem dX13_readAStack_160 : decode cX13_readAStack 160 = .ok (.iload 4, 2) := by decide +kernel
theorem dX13_readAStack_162 : decode cX13_readAStack 162 = .ok (.iastore, 1) := by decide +kernel
theorem dX13_readAStack_163 : decode cX13_readAStack 163 = .ok (.aload_n 0, 1) := by decide +kernel
theorem dX13_readAStack_164 : decode cX13_readAStack 164 = .ok (.getfield 167, 3) := by decide +kernel
theorem dX13_readAStack_167 : decode cX13_readAStack 167 = .ok (.dup, 1) := by decide +kernel
theorem dX13_readAStack_168 : decode cX13_readAStack 168 = .ok (.getfield 187, 3) := by decide +kernel
theorem dX13_readAStack_171 : decode cX13_readAStack 171 = .ok (.iconst 1, 1) := by decide +kernel
theorem dX13_readAStack_172 : decode cX13_readAStack 172 = .ok (.iadd, 1) := by decide +kernel
theorem dX13_readAStack_173 : decode cX13_readAStack 173 = .ok (.putfield 187, 3) := by decide +kernel
theorem dX13_readAStack_176 : decode cX13_readAStack 176 = .ok (.return_, 1) := by decide +kernel
set_option maxRecDepth 20000 in
theorem ggX13_readUnsure_X13_lineBegins : GoodIn wsX13_readUnsure wsX13_lineBegins := goodIn_r _ [7, 1, 8, 9, 10, 6, 11, 2, 12, 13, 14, 15, 16, 17, 18, 19, 20, 21, 22, 23, 24, 25, 26, 27, 28, 29, 30, 31, 32, 33, 34, 35, 36, 37, 38, 39, 40, 41, 127, 128, 129, 130, 131, 132, 133, 134, 135, 136, 137, 138, 139, 140, 141, 142, 143, 144, 145, 146, 147, 148, 149, 150, 151, 152, 153, 154, 155, 156, 157, 158, 159, 160, 161, 162, 163, 164, 165, 166, 167, 168, 169, 170, 171, 172, 173, 174, 175, 176, 177, 178, 179, 180] (by decide +kernel) (by decide +kernel)
set_option maxRecDepth 20000 in
theorem gX13_readUnsure_X13_lineBegins : GoodIn wsX13_readUnsure (wsV RX13 222 RX13 yX13_lineBegins wsX13_lineBegins) := goodIn_app (goodIn_of _ (by decide +kernel)) ggX13_readUnsure_X13_lineBegins
set_option maxRecDepth 20000 in
theorem ggX13_readUnsure_X13_readStack : GoodIn wsX13_readUnsure wsX13_readStack := goodIn_r _ [45, 1, 34, 2, 46, 47, 48, 6, 49, 35, 50, 51, 52, 53, 54, 55, 56, 38, 57, 58, 59, 60, 61, 62, 63, 64, 65, 66, 67, 68, 69, 70, 71, 72, 73, 74, 75, 76, 77, 78, 79, 80, 81, 82, 83, 84, 85, 86, 87, 88, 89, 90, 91, 92, 93, 94, 95, 96, 97, 98, 99, 100, 101, 102, 103, 104, 105, 8, 9, 10, 11, 12, 13, 14, 106, 107, 108, 109, 110, 111, 112, 15, 16, 17, 18, 19, 20, 21, 22, 23, 24, 25, 26, 27, 28, 29, 30, 31, 32, 33, 36, 37, 39, 40, 41, 127, 128, 129, 130, 131, 132, 133, 134, 135, 136, 137, 138, 139, 140, 141, 142, 143, 144, 145, 146, 147, 148, 149, 150, 151, 152, 153, 154, 155, 156, 157, 158, 159, 160, 161, 162, 163, 164, 165, 166, 167, 168, 169, 170, 171, 172, 173, 174, 175, 176, 177, 178, 179, 180] (by decide +kernel) (by decide +kernel)
set_option maxRecDepth 20000 in
theorem gX13_readUnsure_X13_readStack : GoodIn wsX13_readUnsure (wsV RX13 239 RX13 yX13_readStack wsX13_readStack) := goodIn_app (goodIn_of _ (by decide +kernel)) ggX13_readUnsure_X13_readStack
set_option maxRecDepth 20000 in
theorem ggX13_readUnsure_X13_wholeAt : GoodIn wsX13_readUnsure wsX13_wholeAt := goodIn_r _ [116, 2, 20, 8, 9, 10, 6, 11, 12, 13, 14, 117, 118, 119, 127, 128, 129, 130, 131, 132, 133, 134, 135, 136, 137, 138, 139, 140, 141, 142, 143, 144, 145, 146, 147, 148, 149, 150, 151, 152, 153, 154, 155, 156, 157, 158, 159, 160, 161, 162, 163, 164] (by decide +kernel) (by decide +kernel)
set_option maxRecDepth 20000 in
theorem gX13_readUnsure_X13_wholeAt : GoodIn wsX13_readUnsure (wsV RX13 141 RX13 yX13_wholeAt wsX13_wholeAt) := goodIn_app (goodIn_of _ (by decide +kernel)) ggX13_readUnsure_X13_wholeAt
set_option maxRecDepth 20000 in
theorem ggX13_readUnsure_X12_isUnsure : GoodIn wsX13_readUnsure wsX12_isUnsure := goodIn_r _ [123, 124, 125, 126, 165, 166, 167, 168, 169, 170, 171, 172, 173, 174, 175, 176, 177, 178, 179, 180] (by decide +kernel) (by decide +kernel)
set_option maxRecDepth 20000 in
theorem gX13_readUnsure_X12_isUnsure : GoodIn wsX13_readUnsure (wsV RX13 242 RX12 yX12_isUnsure wsX12_isUnsure) := goodIn_app (goodIn_of _ (by decide +kernel)) ggX13_readUnsure_X12_isUnsure
set_option maxRecDepth 20000 in
theorem ggX13_readUnsure_X13_flaw : GoodIn wsX13_readUnsure wsX13_flaw := goodIn_r _ [11, 2, 12, 13, 14, 127, 128, 129, 130, 131, 132, 133, 134, 135, 136, 137, 138, 139, 140, 141, 142, 143, 144, 145, 146, 147, 148, 149, 150, 151, 152, 153, 154, 155, 156, 157, 158, 159, 160, 161, 162, 163, 164] (by decide +kernel) (by decide +kernel)
set_option maxRecDepth 20000 in
theorem gX13_readUnsure_X13_flaw : GoodIn wsX13_readUnsure (wsV RX13 133 RX13 yX13_flaw wsX13_flaw) := goodIn_app (goodIn_of _ (by decide +kernel)) ggX13_readUnsure_X13_flaw
set_option maxRecDepth 20000 in
theorem ggX13_readUnsure_X13_goesOn : GoodIn wsX13_readUnsure wsX13_goesOn := goodIn_r _ [18, 2, 19, 13, 20, 21, 22, 23, 6, 24, 25, 26, 27, 28, 29, 30, 31, 32, 33, 34, 35, 36, 37, 38, 39, 40, 41, 127, 128, 129, 130, 131, 132, 133, 134, 135, 136, 137, 138, 139, 140, 141, 142, 143, 144, 145, 146, 147, 148, 149, 150, 151, 152, 153, 154, 155, 156, 157, 158, 159, 160, 161, 162, 163, 164] (by decide +kernel) (by decide +kernel)
set_option maxRecDepth 20000 in
theorem gX13_readUnsure_X13_goesOn : GoodIn wsX13_readUnsure (wsV RX13 130 RX13 yX13_goesOn wsX13_goesOn) := goodIn_app (goodIn_of _ (by decide +kernel)) ggX13_readUnsure_X13_goesOn
theorem dX13_readUnsure_0 : decode cX13_readUnsure 0 = .ok (.aload_n 0, 1) := by decide +kernel
theorem dX13_readUnsure_1 : decode cX13_readUnsure 1 = .ok (.aload_n 0, 1) := by decide +kernel
theorem dX13_readUnsure_2 : decode cX13_readUnsure 2 = .ok (.getfield 167, 3) := by decide +kernel
theorem dX13_readUnsure_5 : decode cX13_readUnsure 5 = .ok (.getfield 236, 3) := by decide +kernel
theorem dX13_readUnsure_8 : decode cX13_readUnsure 8 = .ok (.iconst 4, 1) := by decide +kernel
theorem dX13_readUnsure_9 : decode cX13_readUnsure 9 = .ok (.invokevirtual 222, 3) := by decide +kernel
theorem dX13_readUnsure_12 : decode cX13_readUnsure 12 = .ok (.aload_n 0, 1) := by decide +kernel
theorem dX13_readUnsure_13 : decode cX13_readUnsure 13 = .ok (.invokevirtual 239, 3) := by decide +kernel
theorem dX13_readUnsure_16 : decode cX13_readUnsure 16 = .ok (.istore_n 1, 1) := by decide +kernel
theorem dX13_readUnsure_17 : decode cX13_readUnsure 17 = .ok (.aload_n 0, 1) := by decide +kernel
theorem dX13_readUnsure_18 : decode cX13_readUnsure 18 = .ok (.iconst 0, 1) := by decide +kernel
theorem dX13_readUnsure_19 : decode cX13_readUnsure 19 = .ok (.aload_n 0, 1) := by decide +kernel
theorem dX13_readUnsure_20 : decode cX13_readUnsure 20 = .ok (.getfield 167, 3) := by decide +kernel
theorem dX13_readUnsure_23 : decode cX13_readUnsure 23 = .ok (.getfield 233, 3) := by decide +kernel
theorem dX13_readUnsure_26 : decode cX13_readUnsure 26 = .ok (.iload_n 1, 1) := by decide +kernel
theorem dX13_readUnsure_27 : decode cX13_readUnsure 27 = .ok (.iaload, 1) := by decide +kernel
theorem dX13_readUnsure_28 : decode cX13_readUnsure 28 = .ok (.iconst 1, 1) := by decide +kernel
theorem dX13_readUnsure_29 : decode cX13_readUnsure 29 = .ok (.isub, 1) := by decide +kernel
theorem dX13_readUnsure_30 : decode cX13_readUnsure 30 = .ok (.invokevirtual 141, 3) := by decide +kernel
theorem dX13_readUnsure_33 : decode cX13_readUnsure 33 = .ok (.istore_n 2, 1) := by decide +kernel
theorem dX13_readUnsure_34 : decode cX13_readUnsure 34 = .ok (.aload_n 0, 1) := by decide +kernel
theorem dX13_readUnsure_35 : decode cX13_readUnsure 35 = .ok (.getfield 105, 3) := by decide +kernel
theorem dX13_readUnsure_38 : decode cX13_readUnsure 38 = .ok (.iconst 5, 1) := by decide +kernel
theorem dX13_readUnsure_39 : decode cX13_readUnsure 39 = .ok (.if_icmp .eq 20, 3) := by decide +kernel
theorem dX13_readUnsure_42 : decode cX13_readUnsure 42 = .ok (.aload_n 0, 1) := by decide +kernel
theorem dX13_readUnsure_43 : decode cX13_readUnsure 43 = .ok (.getfield 167, 3) := by decide +kernel
theorem dX13_readUnsure_46 : decode cX13_readUnsure 46 = .ok (.iload_n 1, 1) := by decide +kernel
theorem dX13_readUnsure_47 : decode cX13_readUnsure 47 = .ok (.iload_n 2, 1) := by decide +kernel
theorem dX13_readUnsure_48 : decode cX13_readUnsure 48 = .ok (.invokevirtual 242, 3) := by decide +kernel
theorem dX13_readUnsure_51 : decode cX13_readUnsure 51 = .ok (.ifCond .eq 8, 3) := by decide +kernel
theorem dX13_readUnsure_54 : decode cX13_readUnsure 54 = .ok (.aload_n 0, 1) := by decide +kernel
theorem dX13_readUnsure_55 : decode cX13_readUnsure 55 = .ok (.iconst 3, 1) := by decide +kernel
theorem dX13_readUnsure_56 : decode cX13_readUnsure 56 = .ok (.invokevirtual 133, 3) := by decide +kernel
theorem dX13_readUnsure_59 : decode cX13_readUnsure 59 = .ok (.aload_n 0, 1) := by decide +kernel
theorem dX13_readUnsure_60 : decode cX13_readUnsure 60 = .ok (.invokevirtual 130, 3) := by decide +kernel
theorem dX13_readUnsure_63 : decode cX13_readUnsure 63 = .ok (.aload_n 0, 1) := by decide +kernel
theorem dX13_readUnsure_64 : decode cX13_readUnsure 64 = .ok (.getfield 105, 3) := by decide +kernel
theorem dX13_readUnsure_67 : decode cX13_readUnsure 67 = .ok (.iconst 5, 1) := by decide +kernel
theorem dX13_readUnsure_68 : decode cX13_readUnsure 68 = .ok (.if_icmp .ne 4, 3) := by decide +kernel
theorem dX13_readUnsure_71 : decode cX13_readUnsure 71 = .ok (.return_, 1) := by decide +kernel
theorem dX13_readUnsure_72 : decode cX13_readUnsure 72 = .ok (.aload_n 0, 1) := by decide +kernel
theorem dX13_readUnsure_73 : decode cX13_readUnsure 73 = .ok (.getfield 167, 3) := by decide +kernel
theorem dX13_readUnsure_76 : decode cX13_readUnsure 76 = .ok (.getfield 246, 3) := by decide +kernel
theorem dX13_readUnsure_79 : decode cX13_readUnsure 79 = .ok (.aload_n 0, 1) := by decide +kernel
theorem dX13_readUnsure_80 : decode cX13_readUnsure 80 = .ok (.getfield 167, 3) := by decide +kernel
theorem dX13_readUnsure_83 : decode cX13_readUnsure 83 = .ok (.getfield 236, 3) := by decide +kernel
theorem dX13_readUnsure_86 : decode cX13_readUnsure 86 = .ok (.iload_n 1, 1) := by decide +kernel
theorem dX13_readUnsure_87 : decode cX13_readUnsure 87 = .ok (.iastore, 1) := by decide +kernel
theorem dX13_readUnsure_88 : decode cX13_readUnsure 88 = .ok (.aload_n 0, 1) := by decide +kernel
theorem dX13_readUnsure_89 : decode cX13_readUnsure 89 = .ok (.getfield 167, 3) := by decide +kernel
theorem dX13_readUnsure_92 : decode cX13_readUnsure 92 = .ok (.getfield 248, 3) := by decide +kernel
theorem dX13_readUnsure_95 : decode cX13_readUnsure 95 = .ok (.aload_n 0, 1) := by decide +kernel
theorem dX13_readUnsure_96 : decode cX13_readUnsure 96 = .ok (.getfield 167, 3) := by decide +kernel
theorem dX13_readUnsure_99 : decode cX13_readUnsure 99 = .ok (.getfield 236, 3) := by decide +kernel
theorem dX13_readUnsure_102 : decode cX13_readUnsure 102 = .ok (.iload_n 2, 1) := by decide +kernel
theorem dX13_readUnsure_103 : decode cX13_readUnsure 103 = .ok (.iastore, 1) := by decide +kernel
theorem dX13_readUnsure_104 : decode cX13_readUnsure 104 = .ok (.aload_n 0, 1) := by decide +kernel
theorem dX13_readUnsure_105 : decode cX13_readUnsure 105 = .ok (.getfield 167, 3) := by decide +kernel
theorem dX13_readUnsure_108 : decode cX13_readUnsure 108 = .ok (.dup, 1) := by decide +kernel
theorem dX13_readUnsure_109 : decode cX13_readUnsure 109 = .ok (.getfield 236, 3) := by decide +kernel
theorem dX13_readUnsure_112 : decode cX13_readUnsure 112 = .ok (.iconst 1, 1) := by decide +kernel
theorem dX13_readUnsure_113 : decode cX13_readUnsure 113 = .ok (.iadd, 1) := by decide +kernel
theorem dX13_readUnsure_114 : decode cX13_readUnsure 114 = .ok (.putfield 236, 3) := by decide +kernel
theorem dX13_readUnsure_117 : decode cX13_readUnsure 117 = .ok (.return_, 1) := by decide +kernel
set_option maxRecDepth 20000 in
theorem ggX13_readAgreed_X13_lineBegins : GoodIn wsX13_readAgreed wsX13_lineBegins := goodIn_r _ [7, 1, 8, 9, 10, 6, 11, 2, 12, 13, 14, 15, 16, 17, 18, 19, 20, 21, 22, 23, 24, 25, 26, 27, 28, 29, 30, 31, 32, 33, 34, 35, 36, 37, 38, 39, 40, 41, 131, 132, 133, 134, 135, 136, 137, 138, 139, 140, 141, 142, 143, 144, 145, 146, 147, 148, 149, 150, 151, 152, 153, 154, 155, 156, 157, 158, 159, 160, 161, 162, 163, 164, 165, 166, 167, 168, 169, 170, 171, 172, 173, 174, 175, 176, 177, 178, 179, 180, 181, 182, 183, 184] (by decide +kernel) (by decide +kernel)
set_option maxRecDepth 20000 in
theorem gX13_readAgreed_X13_lineBegins : GoodIn wsX13_readAgreed (wsV RX13 222 RX13 yX13_lineBegins wsX13_lineBegins) := goodIn_app (goodIn_of _ (by decide +kernel)) ggX13_readAgreed_X13_lineBegins
set_option maxRecDepth 20000 in
theorem ggX13_readAgreed_X13_readStack : GoodIn wsX13_readAgreed wsX13_readStack := goodIn_r _ [45, 1, 34, 2, 46, 47, 48, 6, 49, 35, 50, 51, 52, 53, 54, 55, 56, 38, 57, 58, 59, 60, 61, 62, 63, 64, 65, 66, 67, 68, 69, 70, 71, 72, 73, 74, 75, 76, 77, 78, 79, 80, 81, 82, 83, 84, 85, 86, 87, 88, 89, 90, 91, 92, 93, 94, 95, 96, 97, 98, 99, 100, 101, 102, 103, 104, 105, 8, 9, 10, 11, 12, 13, 14, 106, 107, 108, 109, 110, 111, 112, 15, 16, 17, 18, 19, 20, 21, 22, 23, 24, 25, 26, 27, 28, 29, 30, 31, 32, 33, 36, 37, 39, 40, 41, 131, 132, 133, 134, 135, 136, 137, 138, 139, 140, 141, 142, 143, 144, 145, 146, 147, 148, 149, 150, 151, 152, 153, 154, 155, 156, 157, 158, 159, 160, 161, 162, 163, 164, 165, 166, 167, 168, 169, 170, 171, 172, 173, 174, 175, 176, 177, 178, 179, 180, 181, 182, 183, 184] (by decide +kernel) (by decide +kernel)
set_option maxRecDepth 20000 in
theorem gX13_readAgreed_X13_readStack : GoodIn wsX13_readAgreed (wsV RX13 239 RX13 yX13_readStack wsX13_readStack) := goodIn_app (goodIn_of _ (by decide +kernel)) ggX13_readAgreed_X13_readStack
set_option maxRecDepth 20000 in
theorem ggX13_readAgreed_X13_wholeAt : GoodIn wsX13_readAgreed wsX13_wholeAt := goodIn_r _ [116, 2, 20, 8, 9, 10, 6, 11, 12, 13, 14, 117, 118, 119, 131, 132, 133, 134, 135, 136, 137, 138, 139, 140, 141, 142, 143, 144, 145, 146, 147, 148, 149, 150, 151, 152, 153, 154, 155, 156, 157, 158, 159, 160, 161, 162, 163, 164, 165, 166, 167, 168] (by decide +kernel) (by decide +kernel)
set_option maxRecDepth 20000 in
theorem gX13_readAgreed_X13_wholeAt : GoodIn wsX13_readAgreed (wsV RX13 141 RX13 yX13_wholeAt wsX13_wholeAt) := goodIn_app (goodIn_of _ (by decide +kernel)) ggX13_readAgreed_X13_wholeAt
set_option maxRecDepth 20000 in
theorem ggX13_readAgreed_X12_isAgreed : GoodIn wsX13_readAgreed wsX12_isAgreed := goodIn_r _ [123, 124, 125, 126, 169, 170, 171, 172, 173, 174, 175, 176, 177, 178, 179, 180, 181, 182, 183, 184] (by decide +kernel) (by decide +kernel)
set_option maxRecDepth 20000 in
theorem gX13_readAgreed_X12_isAgreed : GoodIn wsX13_readAgreed (wsV RX13 253 RX12 yX12_isAgreed wsX12_isAgreed) := goodIn_app (goodIn_of _ (by decide +kernel)) ggX13_readAgreed_X12_isAgreed
set_option maxRecDepth 20000 in
theorem ggX13_readAgreed_X13_flaw : GoodIn wsX13_readAgreed wsX13_flaw := goodIn_r _ [11, 2, 12, 13, 14, 131, 132, 133, 134, 135, 136, 137, 138, 139, 140, 141, 142, 143, 144, 145, 146, 147, 148, 149, 150, 151, 152, 153, 154, 155, 156, 157, 158, 159, 160, 161, 162, 163, 164, 165, 166, 167, 168] (by decide +kernel) (by decide +kernel)
set_option maxRecDepth 20000 in
theorem gX13_readAgreed_X13_flaw : GoodIn wsX13_readAgreed (wsV RX13 133 RX13 yX13_flaw wsX13_flaw) := goodIn_app (goodIn_of _ (by decide +kernel)) ggX13_readAgreed_X13_flaw
set_option maxRecDepth 20000 in
theorem ggX13_readAgreed_X13_goesOn : GoodIn wsX13_readAgreed wsX13_goesOn := goodIn_r _ [18, 2, 19, 13, 20, 21, 22, 23, 6, 24, 25, 26, 27, 28, 29, 30, 31, 32, 33, 34, 35, 36, 37, 38, 39, 40, 41, 131, 132, 133, 134, 135, 136, 137, 138, 139, 140, 141, 142, 143, 144, 145, 146, 147, 148, 149, 150, 151, 152, 153, 154, 155, 156, 157, 158, 159, 160, 161, 162, 163, 164, 165, 166, 167, 168] (by decide +kernel) (by decide +kernel)
set_option maxRecDepth 20000 in
theorem gX13_readAgreed_X13_goesOn : GoodIn wsX13_readAgreed (wsV RX13 130 RX13 yX13_goesOn wsX13_goesOn) := goodIn_app (goodIn_of _ (by decide +kernel)) ggX13_readAgreed_X13_goesOn
set_option maxRecDepth 20000 in
theorem ggX13_readAgreed_X13_readWhole : GoodIn wsX13_readAgreed wsX13_readWhole := goodIn_r _ [130, 113, 114, 115, 6, 116, 2, 20, 8, 9, 10, 11, 12, 13, 14, 117, 118, 119, 15, 16, 17, 18, 19, 21, 22, 23, 24, 25, 26, 27, 28, 29, 30, 31, 32, 33, 34, 35, 36, 37, 38, 39, 40, 41, 131, 132, 133, 134, 135, 136, 137, 138, 139, 140, 141, 142, 143, 144, 145, 146, 147, 148, 149, 150, 151, 152, 153, 154, 155, 156, 157, 158, 159, 160, 161, 162, 163, 164, 165, 166, 167, 168] (by decide +kernel) (by decide +kernel)
set_option maxRecDepth 20000 in
theorem gX13_readAgreed_X13_readWhole : GoodIn wsX13_readAgreed (wsV RX13 156 RX13 yX13_readWhole wsX13_readWhole) := goodIn_app (goodIn_of _ (by decide +kernel)) ggX13_readAgreed_X13_readWhole
theorem dX13_readAgreed_0 : decode cX13_readAgreed 0 = .ok (.aload_n 0, 1) := by decide +kernel
theorem dX13_readAgreed_1 : decode cX13_readAgreed 1 = .ok (.aload_n 0, 1) := by decide +kernel
theorem dX13_readAgreed_2 : decode cX13_readAgreed 2 = .ok (.getfield 167, 3) := by decide +kernel
theorem dX13_readAgreed_5 : decode cX13_readAgreed 5 = .ok (.getfield 250, 3) := by decide +kernel
theorem dX13_readAgreed_8 : decode cX13_readAgreed 8 = .ok (.bipush 6, 2) := by decide +kernel
theorem dX13_readAgreed_10 : decode cX13_readAgreed 10 = .ok (.invokevirtual 222, 3) := by decide +kernel
theorem dX13_readAgreed_13 : decode cX13_readAgreed 13 = .ok (.aload_n 0, 1) := by decide +kernel
theorem dX13_readAgreed_14 : decode cX13_readAgreed 14 = .ok (.invokevirtual 239, 3) := by decide +kernel
theorem dX13_readAgreed_17 : decode cX13_readAgreed 17 = .ok (.istore_n 1, 1) := by decide +kernel
theorem dX13_readAgreed_18 : decode cX13_readAgreed 18 = .ok (.aload_n 0, 1) := by decide +kernel
theorem dX13_readAgreed_19 : decode cX13_readAgreed 19 = .ok (.iconst 1, 1) := by decide +kernel
theorem dX13_readAgreed_20 : decode cX13_readAgreed 20 = .ok (.bipush 36, 2) := by decide +kernel
theorem dX13_readAgreed_22 : decode cX13_readAgreed 22 = .ok (.invokevirtual 141, 3) := by decide +kernel
theorem dX13_readAgreed_25 : decode cX13_readAgreed 25 = .ok (.istore_n 2, 1) := by decide +kernel
theorem dX13_readAgreed_26 : decode cX13_readAgreed 26 = .ok (.aload_n 0, 1) := by decide +kernel
theorem dX13_readAgreed_27 : decode cX13_readAgreed 27 = .ok (.getfield 105, 3) := by decide +kernel
theorem dX13_readAgreed_30 : decode cX13_readAgreed 30 = .ok (.iconst 5, 1) := by decide +kernel
theorem dX13_readAgreed_31 : decode cX13_readAgreed 31 = .ok (.if_icmp .eq 20, 3) := by decide +kernel
theorem dX13_readAgreed_34 : decode cX13_readAgreed 34 = .ok (.aload_n 0, 1) := by decide +kernel
theorem dX13_readAgreed_35 : decode cX13_readAgreed 35 = .ok (.getfield 167, 3) := by decide +kernel
theorem dX13_readAgreed_38 : decode cX13_readAgreed 38 = .ok (.iload_n 1, 1) := by decide +kernel
theorem dX13_readAgreed_39 : decode cX13_readAgreed 39 = .ok (.iload_n 2, 1) := by decide +kernel
theorem dX13_readAgreed_40 : decode cX13_readAgreed 40 = .ok (.invokevirtual 253, 3) := by decide +kernel
theorem dX13_readAgreed_43 : decode cX13_readAgreed 43 = .ok (.ifCond .eq 8, 3) := by decide +kernel
theorem dX13_readAgreed_46 : decode cX13_readAgreed 46 = .ok (.aload_n 0, 1) := by decide +kernel
theorem dX13_readAgreed_47 : decode cX13_readAgreed 47 = .ok (.iconst 3, 1) := by decide +kernel
theorem dX13_readAgreed_48 : decode cX13_readAgreed 48 = .ok (.invokevirtual 133, 3) := by decide +kernel
theorem dX13_readAgreed_51 : decode cX13_readAgreed 51 = .ok (.aload_n 0, 1) := by decide +kernel
theorem dX13_readAgreed_52 : decode cX13_readAgreed 52 = .ok (.invokevirtual 130, 3) := by decide +kernel
theorem dX13_readAgreed_55 : decode cX13_readAgreed 55 = .ok (.aload_n 0, 1) := by decide +kernel
theorem dX13_readAgreed_56 : decode cX13_readAgreed 56 = .ok (.iconst 0, 1) := by decide +kernel
theorem dX13_readAgreed_57 : decode cX13_readAgreed 57 = .ok (.bipush 36, 2) := by decide +kernel
theorem dX13_readAgreed_59 : decode cX13_readAgreed 59 = .ok (.invokevirtual 156, 3) := by decide +kernel
theorem dX13_readAgreed_62 : decode cX13_readAgreed 62 = .ok (.istore_n 3, 1) := by decide +kernel
theorem dX13_readAgreed_63 : decode cX13_readAgreed 63 = .ok (.aload_n 0, 1) := by decide +kernel
theorem dX13_readAgreed_64 : decode cX13_readAgreed 64 = .ok (.getfield 105, 3) := by decide +kernel
theorem dX13_readAgreed_67 : decode cX13_readAgreed 67 = .ok (.iconst 5, 1) := by decide +kernel
theorem dX13_readAgreed_68 : decode cX13_readAgreed 68 = .ok (.if_icmp .ne 4, 3) := by decide +kernel
theorem dX13_readAgreed_71 : decode cX13_readAgreed 71 = .ok (.return_, 1) := by decide +kernel
theorem dX13_readAgreed_72 : decode cX13_readAgreed 72 = .ok (.aload_n 0, 1) := by decide +kernel
theorem dX13_readAgreed_73 : decode cX13_readAgreed 73 = .ok (.getfield 167, 3) := by decide +kernel
theorem dX13_readAgreed_76 : decode cX13_readAgreed 76 = .ok (.getfield 256, 3) := by decide +kernel
theorem dX13_readAgreed_79 : decode cX13_readAgreed 79 = .ok (.aload_n 0, 1) := by decide +kernel
theorem dX13_readAgreed_80 : decode cX13_readAgreed 80 = .ok (.getfield 167, 3) := by decide +kernel
theorem dX13_readAgreed_83 : decode cX13_readAgreed 83 = .ok (.getfield 250, 3) := by decide +kernel
theorem dX13_readAgreed_86 : decode cX13_readAgreed 86 = .ok (.iload_n 1, 1) := by decide +kernel
theorem dX13_readAgreed_87 : decode cX13_readAgreed 87 = .ok (.iastore, 1) := by decide +kernel
theorem dX13_readAgreed_88 : decode cX13_readAgreed 88 = .ok (.aload_n 0, 1) := by decide +kernel
theorem dX13_readAgreed_89 : decode cX13_readAgreed 89 = .ok (.getfield 167, 3) := by decide +kernel
theorem dX13_readAgreed_92 : decode cX13_readAgreed 92 = .ok (.getfield 258, 3) := by decide +kernel
theorem dX13_readAgreed_95 : decode cX13_readAgreed 95 = .ok (.aload_n 0, 1) := by decide +kernel
theorem dX13_readAgreed_96 : decode cX13_readAgreed 96 = .ok (.getfield 167, 3) := by decide +kernel
theorem dX13_readAgreed_99 : decode cX13_readAgreed 99 = .ok (.getfield 250, 3) := by decide +kernel
theorem dX13_readAgreed_102 : decode cX13_readAgreed 102 = .ok (.iload_n 2, 1) := by decide +kernel
theorem dX13_readAgreed_103 : decode cX13_readAgreed 103 = .ok (.iastore, 1) := by decide +kernel
theorem dX13_readAgreed_104 : decode cX13_readAgreed 104 = .ok (.aload_n 0, 1) := by decide +kernel
theorem dX13_readAgreed_105 : decode cX13_readAgreed 105 = .ok (.getfield 167, 3) := by decide +kernel
theorem dX13_readAgreed_108 : decode cX13_readAgreed 108 = .ok (.getfield 261, 3) := by decide +kernel
theorem dX13_readAgreed_111 : decode cX13_readAgreed 111 = .ok (.aload_n 0, 1) := by decide +kernel
theorem dX13_readAgreed_112 : decode cX13_readAgreed 112 = .ok (.getfield 167, 3) := by decide +kernel
theorem dX13_readAgreed_115 : decode cX13_readAgreed 115 = .ok (.getfield 250, 3) := by decide +kernel
theorem dX13_readAgreed_118 : decode cX13_readAgreed 118 = .ok (.iload_n 3, 1) := by decide +kernel
theorem dX13_readAgreed_119 : decode cX13_readAgreed 119 = .ok (.iastore, 1) := by decide +kernel
theorem dX13_readAgreed_120 : decode cX13_readAgreed 120 = .ok (.aload_n 0, 1) := by decide +kernel
theorem dX13_readAgreed_121 : decode cX13_readAgreed 121 = .ok (.getfield 167, 3) := by decide +kernel
theorem dX13_readAgreed_124 : decode cX13_readAgreed 124 = .ok (.dup, 1) := by decide +kernel
theorem dX13_readAgreed_125 : decode cX13_readAgreed 125 = .ok (.getfield 250, 3) := by decide +kernel
theorem dX13_readAgreed_128 : decode cX13_readAgreed 128 = .ok (.iconst 1, 1) := by decide +kernel
theorem dX13_readAgreed_129 : decode cX13_readAgreed 129 = .ok (.iadd, 1) := by decide +kernel
theorem dX13_readAgreed_130 : decode cX13_readAgreed 130 = .ok (.putfield 250, 3) := by decide +kernel
theorem dX13_readAgreed_133 : decode cX13_readAgreed 133 = .ok (.return_, 1) := by decide +kernel
theorem dX13_feed_0 : decode cX13_feed 0 = .ok (.aload_n 0, 1) := by decide +kernel
theorem dX13_feed_1 : decode cX13_feed 1 = .ok (.iconst 0, 1) := by decide +kernel
theorem dX13_feed_2 : decode cX13_feed 2 = .ok (.putfield 49, 3) := by decide +kernel
theorem dX13_feed_5 : decode cX13_feed 5 = .ok (.aload_n 0, 1) := by decide +kernel
theorem dX13_feed_6 : decode cX13_feed 6 = .ok (.getfield 264, 3) := by decide +kernel
theorem dX13_feed_9 : decode cX13_feed 9 = .ok (.bipush 20, 2) := by decide +kernel
theorem dX13_feed_11 : decode cX13_feed 11 = .ok (.iadd, 1) := by decide +kernel
theorem dX13_feed_12 : decode cX13_feed 12 = .ok (.sipush 500, 3) := by decide +kernel
theorem dX13_feed_15 : decode cX13_feed 15 = .ok (.if_icmp .le 5, 3) := by decide +kernel
theorem dX13_feed_18 : decode cX13_feed 18 = .ok (.iconst (-1), 1) := by decide +kernel
theorem dX13_feed_19 : decode cX13_feed 19 = .ok (.ireturn, 1) := by decide +kernel
theorem dX13_feed_20 : decode cX13_feed 20 = .ok (.iconst 0, 1) := by decide +kernel
theorem dX13_feed_21 : decode cX13_feed 21 = .ok (.istore 6, 2) := by decide +kernel
theorem dX13_feed_23 : decode cX13_feed 23 = .ok (.iload 6, 2) := by decide +kernel
theorem dX13_feed_25 : decode cX13_feed 25 = .ok (.bipush 20, 2) := by decide +kernel
theorem dX13_feed_27 : decode cX13_feed 27 = .ok (.if_icmp .ge 90, 3) := by decide +kernel
theorem dX13_feed_30 : decode cX13_feed 30 = .ok (.iload 6, 2) := by decide +kernel
theorem dX13_feed_32 : decode cX13_feed 32 = .ok (.iconst 4, 1) := by decide +kernel
theorem dX13_feed_33 : decode cX13_feed 33 = .ok (.if_icmp .ge 7, 3) := by decide +kernel
theorem dX13_feed_36 : decode cX13_feed 36 = .ok (.iload_n 1, 1) := by decide +kernel
theorem dX13_feed_37 : decode cX13_feed 37 = .ok (.goto 39, 3) := by decide +kernel
theorem dX13_feed_40 : decode cX13_feed 40 = .ok (.iload 6, 2) := by decide +kernel
theorem dX13_feed_42 : decode cX13_feed 42 = .ok (.bipush 8, 2) := by decide +kernel
theorem dX13_feed_44 : decode cX13_feed 44 = .ok (.if_icmp .ge 7, 3) := by decide +kernel
theorem dX13_feed_47 : decode cX13_feed 47 = .ok (.iload_n 2, 1) := by decide +kernel
theorem dX13_feed_48 : decode cX13_feed 48 = .ok (.goto 28, 3) := by decide +kernel
theorem dX13_feed_51 : decode cX13_feed 51 = .ok (.iload 6, 2) := by decide +kernel
theorem dX13_feed_53 : decode cX13_feed 53 = .ok (.bipush 12, 2) := by decide +kernel
theorem dX13_feed_55 : decode cX13_feed 55 = .ok (.if_icmp .ge 7, 3) := by decide +kernel
theorem dX13_feed_58 : decode cX13_feed 58 = .ok (.iload_n 3, 1) := by decide +kernel
theorem dX13_feed_59 : decode cX13_feed 59 = .ok (.goto 17, 3) := by decide +kernel
theorem dX13_feed_62 : decode cX13_feed 62 = .ok (.iload 6, 2) := by decide +kernel
theorem dX13_feed_64 : decode cX13_feed 64 = .ok (.bipush 16, 2) := by decide +kernel
theorem dX13_feed_66 : decode cX13_feed 66 = .ok (.if_icmp .ge 8, 3) := by decide +kernel
theorem dX13_feed_69 : decode cX13_feed 69 = .ok (.iload 4, 2) := by decide +kernel
theorem dX13_feed_71 : decode cX13_feed 71 = .ok (.goto 5, 3) := by decide +kernel
theorem dX13_feed_74 : decode cX13_feed 74 = .ok (.iload 5, 2) := by decide +kernel
theorem dX13_feed_76 : decode cX13_feed 76 = .ok (.istore 7, 2) := by decide +kernel
theorem dX13_feed_78 : decode cX13_feed 78 = .ok (.aload_n 0, 1) := by decide +kernel
theorem dX13_feed_79 : decode cX13_feed 79 = .ok (.getfield 13, 3) := by decide +kernel
theorem dX13_feed_82 : decode cX13_feed 82 = .ok (.aload_n 0, 1) := by decide +kernel
theorem dX13_feed_83 : decode cX13_feed 83 = .ok (.getfield 264, 3) := by decide +kernel
theorem dX13_feed_86 : decode cX13_feed 86 = .ok (.iload 7, 2) := by decide +kernel
theorem dX13_feed_88 : decode cX13_feed 88 = .ok (.bipush 24, 2) := by decide +kernel
theorem dX13_feed_90 : decode cX13_feed 90 = .ok (.bipush 8, 2) := by decide +kernel
theorem dX13_feed_92 : decode cX13_feed 92 = .ok (.iload 6, 2) := by decide +kernel
theorem dX13_feed_94 : decode cX13_feed 94 = .ok (.iconst 4, 1) := by decide +kernel
theorem dX13_feed_95 : decode cX13_feed 95 = .ok (.irem, 1) := by decide +kernel
theorem dX13_feed_96 : decode cX13_feed 96 = .ok (.imul, 1) := by decide +kernel
theorem dX13_feed_97 : decode cX13_feed 97 = .ok (.isub, 1) := by decide +kernel
theorem dX13_feed_98 : decode cX13_feed 98 = .ok (.ishr, 1) := by decide +kernel
theorem dX13_feed_99 : decode cX13_feed 99 = .ok (.i2b, 1) := by decide +kernel
theorem dX13_feed_100 : decode cX13_feed 100 = .ok (.bastore, 1) := by decide +kernel
theorem dX13_feed_101 : decode cX13_feed 101 = .ok (.aload_n 0, 1) := by decide +kernel
theorem dX13_feed_102 : decode cX13_feed 102 = .ok (.dup, 1) := by decide +kernel
theorem dX13_feed_103 : decode cX13_feed 103 = .ok (.getfield 264, 3) := by decide +kernel
theorem dX13_feed_106 : decode cX13_feed 106 = .ok (.iconst 1, 1) := by decide +kernel
theorem dX13_feed_107 : decode cX13_feed 107 = .ok (.iadd, 1) := by decide +kernel
theorem dX13_feed_108 : decode cX13_feed 108 = .ok (.putfield 264, 3) := by decide +kernel
theorem dX13_feed_111 : decode cX13_feed 111 = .ok (.iinc 6 1, 3) := by decide +kernel
theorem dX13_feed_114 : decode cX13_feed 114 = .ok (.goto (-91), 3) := by decide +kernel
theorem dX13_feed_117 : decode cX13_feed 117 = .ok (.aload_n 0, 1) := by decide +kernel
theorem dX13_feed_118 : decode cX13_feed 118 = .ok (.getfield 264, 3) := by decide +kernel
theorem dX13_feed_121 : decode cX13_feed 121 = .ok (.ireturn, 1) := by decide +kernel
set_option maxRecDepth 20000 in
theorem ggX13_lab_X13_refused : GoodIn wsX13_lab wsX13_refused := goodIn_r _ [22, 11, 13, 202, 203, 204, 205, 206, 207, 208, 209, 210, 211, 212, 213, 214, 215, 216, 217, 218, 219, 220, 221, 222, 223, 224, 225, 226, 227, 228, 229, 230, 231, 232, 233, 234, 235, 236, 237, 238, 239] (by decide +kernel) (by decide +kernel)
set_option maxRecDepth 20000 in
theorem gX13_lab_X13_refused : GoodIn wsX13_lab (wsV RX13 55 RX13 yX13_refused wsX13_refused) := goodIn_app (goodIn_of _ (by decide +kernel)) ggX13_lab_X13_refused
set_option maxRecDepth 20000 in
theorem ggX13_lab_X12_init : GoodIn wsX13_lab wsX12_init := goodIn_r _ [24, 25, 26, 27, 28, 29, 30, 31, 32, 33, 34, 35, 36, 37, 240, 241, 242, 243, 244, 245, 246, 247, 248, 249, 250, 251, 252, 253, 254, 255] (by decide +kernel) (by decide +kernel)
set_option maxRecDepth 20000 in
theorem gX13_lab_X12_init_n267 : GoodIn wsX13_lab (wsX12_init) := ggX13_lab_X12_init
set_option maxRecDepth 20000 in
theorem ggX13_lab_X13_goesOn : GoodIn wsX13_lab wsX13_goesOn := goodIn_r _ [41, 10, 4, 42, 43, 44, 45, 46, 21, 47, 3, 48, 49, 50, 51, 52, 53, 54, 55, 56, 57, 58, 59, 60, 61, 62, 63, 202, 203, 204, 205, 206, 207, 208, 209, 210, 211, 212, 213, 214, 215, 216, 217, 218, 219, 220, 221, 222, 223, 224, 225, 226, 227, 228, 229, 230, 231, 232, 233, 234, 235, 236, 237, 238, 239] (by decide +kernel) (by decide +kernel)
set_option maxRecDepth 20000 in
theorem gX13_lab_X13_goesOn : GoodIn wsX13_lab (wsV RX13 130 RX13 yX13_goesOn wsX13_goesOn) := goodIn_app (goodIn_of _ (by decide +kernel)) ggX13_lab_X13_goesOn
set_option maxRecDepth 20000 in
theorem ggX13_lab_X13_readAll : GoodIn wsX13_lab wsX13_readAll := goodIn_r _ [67, 10, 9, 68, 69, 70, 21, 71, 72, 73, 74, 75, 56, 76, 77, 78, 60, 79, 80, 81, 82, 83, 84, 85, 86, 87, 88, 89, 90, 91, 92, 93, 94, 95, 96, 97, 98, 99, 100, 101, 102, 103, 104, 105, 106, 107, 108, 109, 110, 111, 112, 113, 114, 115, 116, 117, 118, 119, 120, 121, 122, 123, 124, 125, 126, 127, 128, 129, 130, 131, 132, 133, 134, 135, 5, 42, 12, 38, 39, 40, 41, 4, 43, 44, 45, 46, 47, 3, 48, 49, 50, 51, 52, 53, 54, 55, 57, 58, 59, 61, 62, 63, 136, 137, 138, 139, 140, 141, 142, 143, 144, 145, 146, 147, 148, 149, 150, 151, 152, 153, 154, 155, 156, 157, 158, 159, 160, 161, 162, 163, 164, 165, 166, 167, 168, 169, 170, 171, 172, 173, 8, 174, 175, 37, 176, 177, 178, 179, 180, 181, 182, 183, 184, 185, 186, 187, 188, 31, 32, 189, 190, 191, 192, 193, 194, 195, 196, 197, 33, 34, 202, 203, 204, 205, 206, 207, 208, 209, 210, 211, 212, 213, 214, 215, 216, 217, 218, 219, 220, 221, 222, 223, 224, 225, 226, 227, 228, 229, 230, 231, 232, 233, 234, 235, 236, 237, 238, 239, 240, 241, 242, 243, 244, 245, 246, 247, 248, 249, 250, 251, 252, 253, 254, 255] (by decide +kernel) (by decide +kernel)
set_option maxRecDepth 20000 in
theorem gX13_lab_X13_readAll : GoodIn wsX13_lab (wsV RX13 268 RX13 yX13_readAll wsX13_readAll) := goodIn_app (goodIn_of _ (by decide +kernel)) ggX13_lab_X13_readAll
set_option maxRecDepth 20000 in
theorem ggX13_lab_X13_good : GoodIn wsX13_lab wsX13_good := goodIn_r _ [201, 11, 13, 202, 203, 204, 205, 206, 207, 208, 209, 210, 211, 212, 213, 214, 215, 216, 217, 218, 219, 220, 221, 222, 223, 224, 225, 226, 227, 228, 229, 230, 231, 232, 233, 234, 235, 236, 237, 238, 239] (by decide +kernel) (by decide +kernel)
set_option maxRecDepth 20000 in
theorem gX13_lab_X13_good : GoodIn wsX13_lab (wsV RX13 59 RX13 yX13_good wsX13_good) := goodIn_app (goodIn_of _ (by decide +kernel)) ggX13_lab_X13_good
theorem dX13_lab_0 : decode cX13_lab 0 = .ok (.aload_n 0, 1) := by decide +kernel
theorem dX13_lab_1 : decode cX13_lab 1 = .ok (.iconst 0, 1) := by decide +kernel
theorem dX13_lab_2 : decode cX13_lab 2 = .ok (.putfield 49, 3) := by decide +kernel
theorem dX13_lab_5 : decode cX13_lab 5 = .ok (.iload_n 1, 1) := by decide +kernel
theorem dX13_lab_6 : decode cX13_lab 6 = .ok (.ifCond .lt 11, 3) := by decide +kernel
theorem dX13_lab_9 : decode cX13_lab 9 = .ok (.iload_n 1, 1) := by decide +kernel
theorem dX13_lab_10 : decode cX13_lab 10 = .ok (.aload_n 0, 1) := by decide +kernel
theorem dX13_lab_11 : decode cX13_lab 11 = .ok (.getfield 264, 3) := by decide +kernel
theorem dX13_lab_14 : decode cX13_lab 14 = .ok (.if_icmp .le 9, 3) := by decide +kernel
theorem dX13_lab_17 : decode cX13_lab 17 = .ok (.aload_n 0, 1) := by decide +kernel
theorem dX13_lab_18 : decode cX13_lab 18 = .ok (.iconst 2, 1) := by decide +kernel
theorem dX13_lab_19 : decode cX13_lab 19 = .ok (.invokevirtual 55, 3) := by decide +kernel
theorem dX13_lab_22 : decode cX13_lab 22 = .ok (.ireturn, 1) := by decide +kernel
theorem dX13_lab_23 : decode cX13_lab 23 = .ok (.aload_n 0, 1) := by decide +kernel
theorem dX13_lab_24 : decode cX13_lab 24 = .ok (.iload_n 1, 1) := by decide +kernel
theorem dX13_lab_25 : decode cX13_lab 25 = .ok (.putfield 66, 3) := by decide +kernel
theorem dX13_lab_28 : decode cX13_lab 28 = .ok (.aload_n 0, 1) := by decide +kernel
theorem dX13_lab_29 : decode cX13_lab 29 = .ok (.iconst 0, 1) := by decide +kernel
theorem dX13_lab_30 : decode cX13_lab 30 = .ok (.putfield 264, 3) := by decide +kernel
theorem dX13_lab_33 : decode cX13_lab 33 = .ok (.aload_n 0, 1) := by decide +kernel
theorem dX13_lab_34 : decode cX13_lab 34 = .ok (.iconst 0, 1) := by decide +kernel
theorem dX13_lab_35 : decode cX13_lab 35 = .ok (.putfield 95, 3) := by decide +kernel
theorem dX13_lab_38 : decode cX13_lab 38 = .ok (.aload_n 0, 1) := by decide +kernel
theorem dX13_lab_39 : decode cX13_lab 39 = .ok (.iconst 0, 1) := by decide +kernel
theorem dX13_lab_40 : decode cX13_lab 40 = .ok (.putfield 120, 3) := by decide +kernel
theorem dX13_lab_43 : decode cX13_lab 43 = .ok (.aload_n 0, 1) := by decide +kernel
theorem dX13_lab_44 : decode cX13_lab 44 = .ok (.new 172, 3) := by decide +kernel
theorem dX13_lab_47 : decode cX13_lab 47 = .ok (.dup, 1) := by decide +kernel
theorem dX13_lab_48 : decode cX13_lab 48 = .ok (.invokespecial 267, 3) := by decide +kernel
theorem dX13_lab_51 : decode cX13_lab 51 = .ok (.putfield 167, 3) := by decide +kernel
theorem dX13_lab_54 : decode cX13_lab 54 = .ok (.aload_n 0, 1) := by decide +kernel
theorem dX13_lab_55 : decode cX13_lab 55 = .ok (.iconst 0, 1) := by decide +kernel
theorem dX13_lab_56 : decode cX13_lab 56 = .ok (.putfield 105, 3) := by decide +kernel
theorem dX13_lab_59 : decode cX13_lab 59 = .ok (.aload_n 0, 1) := by decide +kernel
theorem dX13_lab_60 : decode cX13_lab 60 = .ok (.invokevirtual 130, 3) := by decide +kernel
theorem dX13_lab_63 : decode cX13_lab 63 = .ok (.aload_n 0, 1) := by decide +kernel
theorem dX13_lab_64 : decode cX13_lab 64 = .ok (.invokevirtual 268, 3) := by decide +kernel
theorem dX13_lab_67 : decode cX13_lab 67 = .ok (.aload_n 0, 1) := by decide +kernel
theorem dX13_lab_68 : decode cX13_lab 68 = .ok (.getfield 120, 3) := by decide +kernel
theorem dX13_lab_71 : decode cX13_lab 71 = .ok (.ifCond .le 18, 3) := by decide +kernel
theorem dX13_lab_74 : decode cX13_lab 74 = .ok (.aload_n 0, 1) := by decide +kernel
theorem dX13_lab_75 : decode cX13_lab 75 = .ok (.iconst 4, 1) := by decide +kernel
theorem dX13_lab_76 : decode cX13_lab 76 = .ok (.putfield 52, 3) := by decide +kernel
theorem dX13_lab_79 : decode cX13_lab 79 = .ok (.aload_n 0, 1) := by decide +kernel
theorem dX13_lab_80 : decode cX13_lab 80 = .ok (.aload_n 0, 1) := by decide +kernel
theorem dX13_lab_81 : decode cX13_lab 81 = .ok (.getfield 123, 3) := by decide +kernel
theorem dX13_lab_84 : decode cX13_lab 84 = .ok (.putfield 9, 3) := by decide +kernel
theorem dX13_lab_87 : decode cX13_lab 87 = .ok (.iconst (-1), 1) := by decide +kernel
theorem dX13_lab_88 : decode cX13_lab 88 = .ok (.ireturn, 1) := by decide +kernel
theorem dX13_lab_89 : decode cX13_lab 89 = .ok (.aload_n 0, 1) := by decide +kernel
theorem dX13_lab_90 : decode cX13_lab 90 = .ok (.aload_n 0, 1) := by decide +kernel
theorem dX13_lab_91 : decode cX13_lab 91 = .ok (.getfield 167, 3) := by decide +kernel
theorem dX13_lab_94 : decode cX13_lab 94 = .ok (.putfield 271, 3) := by decide +kernel
theorem dX13_lab_97 : decode cX13_lab 97 = .ok (.iconst 0, 1) := by decide +kernel
theorem dX13_lab_98 : decode cX13_lab 98 = .ok (.istore_n 2, 1) := by decide +kernel
theorem dX13_lab_99 : decode cX13_lab 99 = .ok (.iload_n 2, 1) := by decide +kernel
theorem dX13_lab_100 : decode cX13_lab 100 = .ok (.iconst 5, 1) := by decide +kernel
theorem dX13_lab_101 : decode cX13_lab 101 = .ok (.if_icmp .ge 41, 3) := by decide +kernel
theorem dX13_lab_104 : decode cX13_lab 104 = .ok (.aload_n 0, 1) := by decide +kernel
theorem dX13_lab_105 : decode cX13_lab 105 = .ok (.getfield 17, 3) := by decide +kernel
theorem dX13_lab_108 : decode cX13_lab 108 = .ok (.iload_n 2, 1) := by decide +kernel
theorem dX13_lab_109 : decode cX13_lab 109 = .ok (.aload_n 0, 1) := by decide +kernel
theorem dX13_lab_110 : decode cX13_lab 110 = .ok (.getfield 271, 3) := by decide +kernel
theorem dX13_lab_113 : decode cX13_lab 113 = .ok (.getfield 233, 3) := by decide +kernel
theorem dX13_lab_116 : decode cX13_lab 116 = .ok (.iload_n 2, 1) := by decide +kernel
theorem dX13_lab_117 : decode cX13_lab 117 = .ok (.iaload, 1) := by decide +kernel
theorem dX13_lab_118 : decode cX13_lab 118 = .ok (.iastore, 1) := by decide +kernel
theorem dX13_lab_119 : decode cX13_lab 119 = .ok (.aload_n 0, 1) := by decide +kernel
theorem dX13_lab_120 : decode cX13_lab 120 = .ok (.getfield 17, 3) := by decide +kernel
theorem dX13_lab_123 : decode cX13_lab 123 = .ok (.iconst 5, 1) := by decide +kernel
theorem dX13_lab_124 : decode cX13_lab 124 = .ok (.iload_n 2, 1) := by decide +kernel
theorem dX13_lab_125 : decode cX13_lab 125 = .ok (.iadd, 1) := by decide +kernel
theorem dX13_lab_126 : decode cX13_lab 126 = .ok (.aload_n 0, 1) := by decide +kernel
theorem dX13_lab_127 : decode cX13_lab 127 = .ok (.getfield 271, 3) := by decide +kernel
theorem dX13_lab_130 : decode cX13_lab 130 = .ok (.getfield 230, 3) := by decide +kernel
theorem dX13_lab_133 : decode cX13_lab 133 = .ok (.iload_n 2, 1) := by decide +kernel
theorem dX13_lab_134 : decode cX13_lab 134 = .ok (.iaload, 1) := by decide +kernel
theorem dX13_lab_135 : decode cX13_lab 135 = .ok (.iastore, 1) := by decide +kernel
theorem dX13_lab_136 : decode cX13_lab 136 = .ok (.iinc 2 1, 3) := by decide +kernel
theorem dX13_lab_139 : decode cX13_lab 139 = .ok (.goto (-40), 3) := by decide +kernel
theorem dX13_lab_142 : decode cX13_lab 142 = .ok (.aload_n 0, 1) := by decide +kernel
theorem dX13_lab_143 : decode cX13_lab 143 = .ok (.iconst 0, 1) := by decide +kernel
theorem dX13_lab_144 : decode cX13_lab 144 = .ok (.putfield 273, 3) := by decide +kernel
theorem dX13_lab_147 : decode cX13_lab 147 = .ok (.aload_n 0, 1) := by decide +kernel
theorem dX13_lab_148 : decode cX13_lab 148 = .ok (.iconst 0, 1) := by decide +kernel
theorem dX13_lab_149 : decode cX13_lab 149 = .ok (.putfield 276, 3) := by decide +kernel
theorem dX13_lab_152 : decode cX13_lab 152 = .ok (.aload_n 0, 1) := by decide +kernel
theorem dX13_lab_153 : decode cX13_lab 153 = .ok (.aload_n 0, 1) := by decide +kernel
theorem dX13_lab_154 : decode cX13_lab 154 = .ok (.getfield 271, 3) := by decide +kernel
theorem dX13_lab_157 : decode cX13_lab 157 = .ok (.getfield 187, 3) := by decide +kernel
theorem dX13_lab_160 : decode cX13_lab 160 = .ok (.invokevirtual 59, 3) := by decide +kernel
theorem dX13_lab_163 : decode cX13_lab 163 = .ok (.ireturn, 1) := by decide +kernel
theorem dX13_fault_0 : decode cX13_fault 0 = .ok (.aload_n 0, 1) := by decide +kernel
theorem dX13_fault_1 : decode cX13_fault 1 = .ok (.iconst 0, 1) := by decide +kernel
theorem dX13_fault_2 : decode cX13_fault 2 = .ok (.putfield 49, 3) := by decide +kernel
theorem dX13_fault_5 : decode cX13_fault 5 = .ok (.aload_n 0, 1) := by decide +kernel
theorem dX13_fault_6 : decode cX13_fault 6 = .ok (.getfield 120, 3) := by decide +kernel
theorem dX13_fault_9 : decode cX13_fault 9 = .ok (.ireturn, 1) := by decide +kernel
theorem dX13_where_0 : decode cX13_where 0 = .ok (.aload_n 0, 1) := by decide +kernel
theorem dX13_where_1 : decode cX13_where 1 = .ok (.iconst 0, 1) := by decide +kernel
theorem dX13_where_2 : decode cX13_where 2 = .ok (.putfield 49, 3) := by decide +kernel
theorem dX13_where_5 : decode cX13_where 5 = .ok (.aload_n 0, 1) := by decide +kernel
theorem dX13_where_6 : decode cX13_where 6 = .ok (.getfield 9, 3) := by decide +kernel
theorem dX13_where_9 : decode cX13_where 9 = .ok (.ireturn, 1) := by decide +kernel
theorem dX13_isStack_0 : decode cX13_isStack 0 = .ok (.aload_n 0, 1) := by decide +kernel
theorem dX13_isStack_1 : decode cX13_isStack 1 = .ok (.getfield 271, 3) := by decide +kernel
theorem dX13_isStack_4 : decode cX13_isStack 4 = .ok (.ifnull 22, 3) := by decide +kernel
theorem dX13_isStack_7 : decode cX13_isStack 7 = .ok (.iload_n 1, 1) := by decide +kernel
theorem dX13_isStack_8 : decode cX13_isStack 8 = .ok (.ifCond .lt 18, 3) := by decide +kernel
theorem dX13_isStack_11 : decode cX13_isStack 11 = .ok (.iload_n 1, 1) := by decide +kernel
theorem dX13_isStack_12 : decode cX13_isStack 12 = .ok (.aload_n 0, 1) := by decide +kernel
theorem dX13_isStack_13 : decode cX13_isStack 13 = .ok (.getfield 271, 3) := by decide +kernel
theorem dX13_isStack_16 : decode cX13_isStack 16 = .ok (.getfield 187, 3) := by decide +kernel
theorem dX13_isStack_19 : decode cX13_isStack 19 = .ok (.if_icmp .ge 7, 3) := by decide +kernel
theorem dX13_isStack_22 : decode cX13_isStack 22 = .ok (.iconst 1, 1) := by decide +kernel
theorem dX13_isStack_23 : decode cX13_isStack 23 = .ok (.goto 4, 3) := by decide +kernel
theorem dX13_isStack_26 : decode cX13_isStack 26 = .ok (.iconst 0, 1) := by decide +kernel
theorem dX13_isStack_27 : decode cX13_isStack 27 = .ok (.ireturn, 1) := by decide +kernel
theorem dX13_steps_0 : decode cX13_steps 0 = .ok (.aload_n 0, 1) := by decide +kernel
theorem dX13_steps_1 : decode cX13_steps 1 = .ok (.getfield 17, 3) := by decide +kernel
theorem dX13_steps_4 : decode cX13_steps 4 = .ok (.iload_n 1, 1) := by decide +kernel
theorem dX13_steps_5 : decode cX13_steps 5 = .ok (.iaload, 1) := by decide +kernel
theorem dX13_steps_6 : decode cX13_steps 6 = .ok (.ireturn, 1) := by decide +kernel
theorem dX13_row_0 : decode cX13_row 0 = .ok (.aload_n 0, 1) := by decide +kernel
theorem dX13_row_1 : decode cX13_row 1 = .ok (.getfield 17, 3) := by decide +kernel
theorem dX13_row_4 : decode cX13_row 4 = .ok (.iconst 5, 1) := by decide +kernel
theorem dX13_row_5 : decode cX13_row 5 = .ok (.iload_n 1, 1) := by decide +kernel
theorem dX13_row_6 : decode cX13_row 6 = .ok (.iadd, 1) := by decide +kernel
theorem dX13_row_7 : decode cX13_row 7 = .ok (.iaload, 1) := by decide +kernel
theorem dX13_row_8 : decode cX13_row 8 = .ok (.ireturn, 1) := by decide +kernel
theorem dX13_all_0 : decode cX13_all 0 = .ok (.iconst 1, 1) := by decide +kernel
theorem dX13_all_1 : decode cX13_all 1 = .ok (.iload_n 0, 1) := by decide +kernel
theorem dX13_all_2 : decode cX13_all 2 = .ok (.ishl, 1) := by decide +kernel
theorem dX13_all_3 : decode cX13_all 3 = .ok (.iconst 1, 1) := by decide +kernel
theorem dX13_all_4 : decode cX13_all 4 = .ok (.isub, 1) := by decide +kernel
theorem dX13_all_5 : decode cX13_all 5 = .ok (.ireturn, 1) := by decide +kernel
theorem dX13_step_0 : decode cX13_step 0 = .ok (.iconst 2, 1) := by decide +kernel
theorem dX13_step_1 : decode cX13_step 1 = .ok (.iload_n 0, 1) := by decide +kernel
theorem dX13_step_2 : decode cX13_step 2 = .ok (.iload_n 1, 1) := by decide +kernel
theorem dX13_step_3 : decode cX13_step 3 = .ok (.iconst 1, 1) := by decide +kernel
theorem dX13_step_4 : decode cX13_step 4 = .ok (.isub, 1) := by decide +kernel
theorem dX13_step_5 : decode cX13_step 5 = .ok (.iload_n 2, 1) := by decide +kernel
theorem dX13_step_6 : decode cX13_step 6 = .ok (.iload_n 1, 1) := by decide +kernel
theorem dX13_step_7 : decode cX13_step 7 = .ok (.irem, 1) := by decide +kernel
theorem dX13_step_8 : decode cX13_step 8 = .ok (.isub, 1) := by decide +kernel
theorem dX13_step_9 : decode cX13_step 9 = .ok (.ishr, 1) := by decide +kernel
theorem dX13_step_10 : decode cX13_step 10 = .ok (.iconst 1, 1) := by decide +kernel
theorem dX13_step_11 : decode cX13_step 11 = .ok (.iand, 1) := by decide +kernel
theorem dX13_step_12 : decode cX13_step 12 = .ok (.imul, 1) := by decide +kernel
theorem dX13_step_13 : decode cX13_step 13 = .ok (.iconst 1, 1) := by decide +kernel
theorem dX13_step_14 : decode cX13_step 14 = .ok (.isub, 1) := by decide +kernel
theorem dX13_step_15 : decode cX13_step 15 = .ok (.ireturn, 1) := by decide +kernel
set_option maxRecDepth 20000 in
theorem ggX13_sumOf_X13_bits : GoodIn wsX13_sumOf wsX13_bits := goodIn_r _ [4] (by decide +kernel) (by decide +kernel)
set_option maxRecDepth 20000 in
theorem gX13_sumOf_X13_bits : GoodIn wsX13_sumOf (va_wsS RX13 279 yX13_bits wsX13_bits) := goodIn_app (goodIn_of _ (by decide +kernel)) ggX13_sumOf_X13_bits
theorem dX13_sumOf_0 : decode cX13_sumOf 0 = .ok (.iconst 2, 1) := by decide +kernel
theorem dX13_sumOf_1 : decode cX13_sumOf 1 = .ok (.iload_n 0, 1) := by decide +kernel
theorem dX13_sumOf_2 : decode cX13_sumOf 2 = .ok (.invokestatic 279, 3) := by decide +kernel
theorem dX13_sumOf_5 : decode cX13_sumOf 5 = .ok (.imul, 1) := by decide +kernel
theorem dX13_sumOf_6 : decode cX13_sumOf 6 = .ok (.iload_n 1, 1) := by decide +kernel
theorem dX13_sumOf_7 : decode cX13_sumOf 7 = .ok (.isub, 1) := by decide +kernel
theorem dX13_sumOf_8 : decode cX13_sumOf 8 = .ok (.ireturn, 1) := by decide +kernel
set_option maxRecDepth 20000 in
theorem ggX13_repeats_X13_sumOf : GoodIn wsX13_repeats wsX13_sumOf := goodIn_r _ [4, 5, 6, 3, 7] (by decide +kernel) (by decide +kernel)
set_option maxRecDepth 20000 in
theorem gX13_repeats_X13_sumOf : GoodIn wsX13_repeats (va_wsS RX13 282 yX13_sumOf wsX13_sumOf) := goodIn_app (goodIn_of _ (by decide +kernel)) ggX13_repeats_X13_sumOf
theorem dX13_repeats_0 : decode cX13_repeats 0 = .ok (.iload_n 0, 1) := by decide +kernel
theorem dX13_repeats_1 : decode cX13_repeats 1 = .ok (.iload_n 1, 1) := by decide +kernel
theorem dX13_repeats_2 : decode cX13_repeats 2 = .ok (.invokestatic 282, 3) := by decide +kernel
theorem dX13_repeats_5 : decode cX13_repeats 5 = .ok (.iconst 3, 1) := by decide +kernel
theorem dX13_repeats_6 : decode cX13_repeats 6 = .ok (.irem, 1) := by decide +kernel
theorem dX13_repeats_7 : decode cX13_repeats 7 = .ok (.ifCond .ne 7, 3) := by decide +kernel
theorem dX13_repeats_10 : decode cX13_repeats 10 = .ok (.iload_n 1, 1) := by decide +kernel
theorem dX13_repeats_11 : decode cX13_repeats 11 = .ok (.goto 6, 3) := by decide +kernel
theorem dX13_repeats_14 : decode cX13_repeats 14 = .ok (.iconst 3, 1) := by decide +kernel
theorem dX13_repeats_15 : decode cX13_repeats 15 = .ok (.iload_n 1, 1) := by decide +kernel
theorem dX13_repeats_16 : decode cX13_repeats 16 = .ok (.imul, 1) := by decide +kernel
theorem dX13_repeats_17 : decode cX13_repeats 17 = .ok (.ireturn, 1) := by decide +kernel
set_option maxRecDepth 20000 in
theorem ggX13_turned_X13_all : GoodIn wsX13_turned wsX13_all := goodIn_r _ [4] (by decide +kernel) (by decide +kernel)
set_option maxRecDepth 20000 in
theorem gX13_turned_X13_all : GoodIn wsX13_turned (va_wsS RX13 285 yX13_all wsX13_all) := goodIn_app (goodIn_of _ (by decide +kernel)) ggX13_turned_X13_all
theorem dX13_turned_0 : decode cX13_turned 0 = .ok (.iload_n 0, 1) := by decide +kernel
theorem dX13_turned_1 : decode cX13_turned 1 = .ok (.iconst 1, 1) := by decide +kernel
theorem dX13_turned_2 : decode cX13_turned 2 = .ok (.ishl, 1) := by decide +kernel
theorem dX13_turned_3 : decode cX13_turned 3 = .ok (.iload_n 0, 1) := by decide +kernel
theorem dX13_turned_4 : decode cX13_turned 4 = .ok (.iload_n 1, 1) := by decide +kernel
theorem dX13_turned_5 : decode cX13_turned 5 = .ok (.iconst 1, 1) := by decide +kernel
theorem dX13_turned_6 : decode cX13_turned 6 = .ok (.isub, 1) := by decide +kernel
theorem dX13_turned_7 : decode cX13_turned 7 = .ok (.ishr, 1) := by decide +kernel
theorem dX13_turned_8 : decode cX13_turned 8 = .ok (.ior, 1) := by decide +kernel
theorem dX13_turned_9 : decode cX13_turned 9 = .ok (.iload_n 1, 1) := by decide +kernel
theorem dX13_turned_10 : decode cX13_turned 10 = .ok (.invokestatic 285, 3) := by decide +kernel
theorem dX13_turned_13 : decode cX13_turned 13 = .ok (.iand, 1) := by decide +kernel
theorem dX13_turned_14 : decode cX13_turned 14 = .ok (.ireturn, 1) := by decide +kernel
theorem dX13_reversed_0 : decode cX13_reversed 0 = .ok (.iconst 0, 1) := by decide +kernel
theorem dX13_reversed_1 : decode cX13_reversed 1 = .ok (.istore_n 2, 1) := by decide +kernel
theorem dX13_reversed_2 : decode cX13_reversed 2 = .ok (.iconst 0, 1) := by decide +kernel
theorem dX13_reversed_3 : decode cX13_reversed 3 = .ok (.istore_n 3, 1) := by decide +kernel
theorem dX13_reversed_4 : decode cX13_reversed 4 = .ok (.iload_n 3, 1) := by decide +kernel
theorem dX13_reversed_5 : decode cX13_reversed 5 = .ok (.iload_n 1, 1) := by decide +kernel
theorem dX13_reversed_6 : decode cX13_reversed 6 = .ok (.if_icmp .ge 23, 3) := by decide +kernel
theorem dX13_reversed_9 : decode cX13_reversed 9 = .ok (.iload_n 2, 1) := by decide +kernel
theorem dX13_reversed_10 : decode cX13_reversed 10 = .ok (.iload_n 0, 1) := by decide +kernel
theorem dX13_reversed_11 : decode cX13_reversed 11 = .ok (.iload_n 3, 1) := by decide +kernel
theorem dX13_reversed_12 : decode cX13_reversed 12 = .ok (.ishr, 1) := by decide +kernel
theorem dX13_reversed_13 : decode cX13_reversed 13 = .ok (.iconst 1, 1) := by decide +kernel
theorem dX13_reversed_14 : decode cX13_reversed 14 = .ok (.iand, 1) := by decide +kernel
theorem dX13_reversed_15 : decode cX13_reversed 15 = .ok (.iload_n 1, 1) := by decide +kernel
theorem dX13_reversed_16 : decode cX13_reversed 16 = .ok (.iconst 1, 1) := by decide +kernel
theorem dX13_reversed_17 : decode cX13_reversed 17 = .ok (.isub, 1) := by decide +kernel
theorem dX13_reversed_18 : decode cX13_reversed 18 = .ok (.iload_n 3, 1) := by decide +kernel
theorem dX13_reversed_19 : decode cX13_reversed 19 = .ok (.isub, 1) := by decide +kernel
theorem dX13_reversed_20 : decode cX13_reversed 20 = .ok (.ishl, 1) := by decide +kernel
theorem dX13_reversed_21 : decode cX13_reversed 21 = .ok (.ior, 1) := by decide +kernel
theorem dX13_reversed_22 : decode cX13_reversed 22 = .ok (.istore_n 2, 1) := by decide +kernel
theorem dX13_reversed_23 : decode cX13_reversed 23 = .ok (.iinc 3 1, 3) := by decide +kernel
theorem dX13_reversed_26 : decode cX13_reversed 26 = .ok (.goto (-22), 3) := by decide +kernel
theorem dX13_reversed_29 : decode cX13_reversed 29 = .ok (.iload_n 2, 1) := by decide +kernel
theorem dX13_reversed_30 : decode cX13_reversed 30 = .ok (.ireturn, 1) := by decide +kernel
set_option maxRecDepth 20000 in
theorem ggX13_isHex_X13_step : GoodIn wsX13_isHex wsX13_step := goodIn_r _ [4] (by decide +kernel) (by decide +kernel)
set_option maxRecDepth 20000 in
theorem gX13_isHex_X13_step : GoodIn wsX13_isHex (va_wsS RX13 288 yX13_step wsX13_step) := goodIn_app (goodIn_of _ (by decide +kernel)) ggX13_isHex_X13_step
theorem dX13_isHex_0 : decode cX13_isHex 0 = .ok (.iload_n 0, 1) := by decide +kernel
theorem dX13_isHex_1 : decode cX13_isHex 1 = .ok (.iload_n 1, 1) := by decide +kernel
theorem dX13_isHex_2 : decode cX13_isHex 2 = .ok (.iload_n 2, 1) := by decide +kernel
theorem dX13_isHex_3 : decode cX13_isHex 3 = .ok (.invokestatic 288, 3) := by decide +kernel
theorem dX13_isHex_6 : decode cX13_isHex 6 = .ok (.iload_n 0, 1) := by decide +kernel
theorem dX13_isHex_7 : decode cX13_isHex 7 = .ok (.iload_n 1, 1) := by decide +kernel
theorem dX13_isHex_8 : decode cX13_isHex 8 = .ok (.iload_n 2, 1) := by decide +kernel
theorem dX13_isHex_9 : decode cX13_isHex 9 = .ok (.iload_n 1, 1) := by decide +kernel
theorem dX13_isHex_10 : decode cX13_isHex 10 = .ok (.iadd, 1) := by decide +kernel
theorem dX13_isHex_11 : decode cX13_isHex 11 = .ok (.iconst 1, 1) := by decide +kernel
theorem dX13_isHex_12 : decode cX13_isHex 12 = .ok (.isub, 1) := by decide +kernel
theorem dX13_isHex_13 : decode cX13_isHex 13 = .ok (.invokestatic 288, 3) := by decide +kernel
theorem dX13_isHex_16 : decode cX13_isHex 16 = .ok (.if_icmp .eq 7, 3) := by decide +kernel
theorem dX13_isHex_19 : decode cX13_isHex 19 = .ok (.iconst 1, 1) := by decide +kernel
theorem dX13_isHex_20 : decode cX13_isHex 20 = .ok (.goto 4, 3) := by decide +kernel
theorem dX13_isHex_23 : decode cX13_isHex 23 = .ok (.iconst 0, 1) := by decide +kernel
theorem dX13_isHex_24 : decode cX13_isHex 24 = .ok (.ireturn, 1) := by decide +kernel
set_option maxRecDepth 20000 in
theorem ggX13_hexes_X13_isHex : GoodIn wsX13_hexes wsX13_isHex := goodIn_r _ [4, 5, 6, 3, 7] (by decide +kernel) (by decide +kernel)
set_option maxRecDepth 20000 in
theorem gX13_hexes_X13_isHex : GoodIn wsX13_hexes (va_wsS RX13 292 yX13_isHex wsX13_isHex) := goodIn_app (goodIn_of _ (by decide +kernel)) ggX13_hexes_X13_isHex
theorem dX13_hexes_0 : decode cX13_hexes 0 = .ok (.iconst 0, 1) := by decide +kernel
theorem dX13_hexes_1 : decode cX13_hexes 1 = .ok (.istore_n 2, 1) := by decide +kernel
theorem dX13_hexes_2 : decode cX13_hexes 2 = .ok (.iconst 0, 1) := by decide +kernel
theorem dX13_hexes_3 : decode cX13_hexes 3 = .ok (.istore_n 3, 1) := by decide +kernel
theorem dX13_hexes_4 : decode cX13_hexes 4 = .ok (.iload_n 3, 1) := by decide +kernel
theorem dX13_hexes_5 : decode cX13_hexes 5 = .ok (.iload_n 1, 1) := by decide +kernel
theorem dX13_hexes_6 : decode cX13_hexes 6 = .ok (.if_icmp .ge 26, 3) := by decide +kernel
theorem dX13_hexes_9 : decode cX13_hexes 9 = .ok (.iload_n 2, 1) := by decide +kernel
theorem dX13_hexes_10 : decode cX13_hexes 10 = .ok (.iload_n 0, 1) := by decide +kernel
theorem dX13_hexes_11 : decode cX13_hexes 11 = .ok (.iload_n 1, 1) := by decide +kernel
theorem dX13_hexes_12 : decode cX13_hexes 12 = .ok (.iload_n 3, 1) := by decide +kernel
theorem dX13_hexes_13 : decode cX13_hexes 13 = .ok (.invokestatic 292, 3) := by decide +kernel
theorem dX13_hexes_16 : decode cX13_hexes 16 = .ok (.ifCond .eq 7, 3) := by decide +kernel
theorem dX13_hexes_19 : decode cX13_hexes 19 = .ok (.iconst 1, 1) := by decide +kernel
theorem dX13_hexes_20 : decode cX13_hexes 20 = .ok (.goto 4, 3) := by decide +kernel
theorem dX13_hexes_23 : decode cX13_hexes 23 = .ok (.iconst 0, 1) := by decide +kernel
theorem dX13_hexes_24 : decode cX13_hexes 24 = .ok (.iadd, 1) := by decide +kernel
theorem dX13_hexes_25 : decode cX13_hexes 25 = .ok (.istore_n 2, 1) := by decide +kernel
theorem dX13_hexes_26 : decode cX13_hexes 26 = .ok (.iinc 3 1, 3) := by decide +kernel
theorem dX13_hexes_29 : decode cX13_hexes 29 = .ok (.goto (-25), 3) := by decide +kernel
theorem dX13_hexes_32 : decode cX13_hexes 32 = .ok (.iload_n 2, 1) := by decide +kernel
theorem dX13_hexes_33 : decode cX13_hexes 33 = .ok (.ireturn, 1) := by decide +kernel
set_option maxRecDepth 20000 in
theorem ggX13_energyOf_X13_step : GoodIn wsX13_energyOf wsX13_step := goodIn_r _ [5] (by decide +kernel) (by decide +kernel)
set_option maxRecDepth 20000 in
theorem gX13_energyOf_X13_step : GoodIn wsX13_energyOf (va_wsS RX13 288 yX13_step wsX13_step) := goodIn_app (goodIn_of _ (by decide +kernel)) ggX13_energyOf_X13_step
theorem dX13_energyOf_0 : decode cX13_energyOf 0 = .ok (.iconst 0, 1) := by decide +kernel
theorem dX13_energyOf_1 : decode cX13_energyOf 1 = .ok (.istore_n 3, 1) := by decide +kernel
theorem dX13_energyOf_2 : decode cX13_energyOf 2 = .ok (.iconst 0, 1) := by decide +kernel
theorem dX13_energyOf_3 : decode cX13_energyOf 3 = .ok (.istore 4, 2) := by decide +kernel
theorem dX13_energyOf_5 : decode cX13_energyOf 5 = .ok (.iload 4, 2) := by decide +kernel
theorem dX13_energyOf_7 : decode cX13_energyOf 7 = .ok (.iload_n 2, 1) := by decide +kernel
theorem dX13_energyOf_8 : decode cX13_energyOf 8 = .ok (.if_icmp .ge 73, 3) := by decide +kernel
theorem dX13_energyOf_11 : decode cX13_energyOf 11 = .ok (.iload_n 3, 1) := by decide +kernel
theorem dX13_energyOf_12 : decode cX13_energyOf 12 = .ok (.iload_n 1, 1) := by decide +kernel
theorem dX13_energyOf_13 : decode cX13_energyOf 13 = .ok (.iload_n 2, 1) := by decide +kernel
theorem dX13_energyOf_14 : decode cX13_energyOf 14 = .ok (.iload 4, 2) := by decide +kernel
theorem dX13_energyOf_16 : decode cX13_energyOf 16 = .ok (.invokestatic 288, 3) := by decide +kernel
theorem dX13_energyOf_19 : decode cX13_energyOf 19 = .ok (.aload_n 0, 1) := by decide +kernel
theorem dX13_energyOf_20 : decode cX13_energyOf 20 = .ok (.getfield 271, 3) := by decide +kernel
theorem dX13_energyOf_23 : decode cX13_energyOf 23 = .ok (.getfield 214, 3) := by decide +kernel
theorem dX13_energyOf_26 : decode cX13_energyOf 26 = .ok (.iload_n 1, 1) := by decide +kernel
theorem dX13_energyOf_27 : decode cX13_energyOf 27 = .ok (.iload_n 2, 1) := by decide +kernel
theorem dX13_energyOf_28 : decode cX13_energyOf 28 = .ok (.iload 4, 2) := by decide +kernel
theorem dX13_energyOf_30 : decode cX13_energyOf 30 = .ok (.iconst 1, 1) := by decide +kernel
theorem dX13_energyOf_31 : decode cX13_energyOf 31 = .ok (.iadd, 1) := by decide +kernel
theorem dX13_energyOf_32 : decode cX13_energyOf 32 = .ok (.invokestatic 288, 3) := by decide +kernel
theorem dX13_energyOf_35 : decode cX13_energyOf 35 = .ok (.imul, 1) := by decide +kernel
theorem dX13_energyOf_36 : decode cX13_energyOf 36 = .ok (.aload_n 0, 1) := by decide +kernel
theorem dX13_energyOf_37 : decode cX13_energyOf 37 = .ok (.getfield 271, 3) := by decide +kernel
theorem dX13_energyOf_40 : decode cX13_energyOf 40 = .ok (.getfield 216, 3) := by decide +kernel
theorem dX13_energyOf_43 : decode cX13_energyOf 43 = .ok (.iload_n 1, 1) := by decide +kernel
theorem dX13_energyOf_44 : decode cX13_energyOf 44 = .ok (.iload_n 2, 1) := by decide +kernel
theorem dX13_energyOf_45 : decode cX13_energyOf 45 = .ok (.iload 4, 2) := by decide +kernel
theorem dX13_energyOf_47 : decode cX13_energyOf 47 = .ok (.iconst 2, 1) := by decide +kernel
theorem dX13_energyOf_48 : decode cX13_energyOf 48 = .ok (.iadd, 1) := by decide +kernel
theorem dX13_energyOf_49 : decode cX13_energyOf 49 = .ok (.invokestatic 288, 3) := by decide +kernel
theorem dX13_energyOf_52 : decode cX13_energyOf 52 = .ok (.imul, 1) := by decide +kernel
theorem dX13_energyOf_53 : decode cX13_energyOf 53 = .ok (.iadd, 1) := by decide +kernel
theorem dX13_energyOf_54 : decode cX13_energyOf 54 = .ok (.aload_n 0, 1) := by decide +kernel
theorem dX13_energyOf_55 : decode cX13_energyOf 55 = .ok (.getfield 271, 3) := by decide +kernel
theorem dX13_energyOf_58 : decode cX13_energyOf 58 = .ok (.getfield 218, 3) := by decide +kernel
theorem dX13_energyOf_61 : decode cX13_energyOf 61 = .ok (.iload_n 1, 1) := by decide +kernel
theorem dX13_energyOf_62 : decode cX13_energyOf 62 = .ok (.iload_n 2, 1) := by decide +kernel
theorem dX13_energyOf_63 : decode cX13_energyOf 63 = .ok (.iload 4, 2) := by decide +kernel
theorem dX13_energyOf_65 : decode cX13_energyOf 65 = .ok (.iconst 3, 1) := by decide +kernel
theorem dX13_energyOf_66 : decode cX13_energyOf 66 = .ok (.iadd, 1) := by decide +kernel
theorem dX13_energyOf_67 : decode cX13_energyOf 67 = .ok (.invokestatic 288, 3) := by decide +kernel
theorem dX13_energyOf_70 : decode cX13_energyOf 70 = .ok (.imul, 1) := by decide +kernel
theorem dX13_energyOf_71 : decode cX13_energyOf 71 = .ok (.iadd, 1) := by decide +kernel
theorem dX13_energyOf_72 : decode cX13_energyOf 72 = .ok (.imul, 1) := by decide +kernel
theorem dX13_energyOf_73 : decode cX13_energyOf 73 = .ok (.isub, 1) := by decide +kernel
theorem dX13_energyOf_74 : decode cX13_energyOf 74 = .ok (.istore_n 3, 1) := by decide +kernel
theorem dX13_energyOf_75 : decode cX13_energyOf 75 = .ok (.iinc 4 1, 3) := by decide +kernel
theorem dX13_energyOf_78 : decode cX13_energyOf 78 = .ok (.goto (-73), 3) := by decide +kernel
theorem dX13_energyOf_81 : decode cX13_energyOf 81 = .ok (.iload_n 3, 1) := by decide +kernel
theorem dX13_energyOf_82 : decode cX13_energyOf 82 = .ok (.ireturn, 1) := by decide +kernel
set_option maxRecDepth 20000 in
theorem ggX13_lays_X13_repeats : GoodIn wsX13_lays wsX13_repeats := goodIn_r _ [5, 6, 7, 4, 8, 9, 10, 11] (by decide +kernel) (by decide +kernel)
set_option maxRecDepth 20000 in
theorem gX13_lays_X13_repeats : GoodIn wsX13_lays (va_wsS RX13 295 yX13_repeats wsX13_repeats) := goodIn_app (goodIn_of _ (by decide +kernel)) ggX13_lays_X13_repeats
set_option maxRecDepth 20000 in
theorem ggX13_lays_X13_step : GoodIn wsX13_lays wsX13_step := goodIn_r _ [14] (by decide +kernel) (by decide +kernel)
set_option maxRecDepth 20000 in
theorem gX13_lays_X13_step : GoodIn wsX13_lays (va_wsS RX13 288 yX13_step wsX13_step) := goodIn_app (goodIn_of _ (by decide +kernel)) ggX13_lays_X13_step
theorem dX13_lays_0 : decode cX13_lays 0 = .ok (.iload_n 1, 1) := by decide +kernel
theorem dX13_lays_1 : decode cX13_lays 1 = .ok (.iload_n 2, 1) := by decide +kernel
theorem dX13_lays_2 : decode cX13_lays 2 = .ok (.invokestatic 295, 3) := by decide +kernel
theorem dX13_lays_5 : decode cX13_lays 5 = .ok (.istore_n 3, 1) := by decide +kernel
theorem dX13_lays_6 : decode cX13_lays 6 = .ok (.iconst 0, 1) := by decide +kernel
theorem dX13_lays_7 : decode cX13_lays 7 = .ok (.istore 4, 2) := by decide +kernel
theorem dX13_lays_9 : decode cX13_lays 9 = .ok (.iconst 0, 1) := by decide +kernel
theorem dX13_lays_10 : decode cX13_lays 10 = .ok (.istore 5, 2) := by decide +kernel
theorem dX13_lays_12 : decode cX13_lays 12 = .ok (.iload 5, 2) := by decide +kernel
theorem dX13_lays_14 : decode cX13_lays 14 = .ok (.iload_n 3, 1) := by decide +kernel
theorem dX13_lays_15 : decode cX13_lays 15 = .ok (.if_icmp .ge 34, 3) := by decide +kernel
theorem dX13_lays_18 : decode cX13_lays 18 = .ok (.aload_n 0, 1) := by decide +kernel
theorem dX13_lays_19 : decode cX13_lays 19 = .ok (.getfield 27, 3) := by decide +kernel
theorem dX13_lays_22 : decode cX13_lays 22 = .ok (.iload 5, 2) := by decide +kernel
theorem dX13_lays_24 : decode cX13_lays 24 = .ok (.iload 4, 2) := by decide +kernel
theorem dX13_lays_26 : decode cX13_lays 26 = .ok (.iastore, 1) := by decide +kernel
theorem dX13_lays_27 : decode cX13_lays 27 = .ok (.iload 4, 2) := by decide +kernel
theorem dX13_lays_29 : decode cX13_lays 29 = .ok (.iload_n 1, 1) := by decide +kernel
theorem dX13_lays_30 : decode cX13_lays 30 = .ok (.iload_n 2, 1) := by decide +kernel
theorem dX13_lays_31 : decode cX13_lays 31 = .ok (.iload 5, 2) := by decide +kernel
theorem dX13_lays_33 : decode cX13_lays 33 = .ok (.invokestatic 288, 3) := by decide +kernel
theorem dX13_lays_36 : decode cX13_lays 36 = .ok (.iadd, 1) := by decide +kernel
theorem dX13_lays_37 : decode cX13_lays 37 = .ok (.iconst 3, 1) := by decide +kernel
theorem dX13_lays_38 : decode cX13_lays 38 = .ok (.iadd, 1) := by decide +kernel
theorem dX13_lays_39 : decode cX13_lays 39 = .ok (.iconst 3, 1) := by decide +kernel
theorem dX13_lays_40 : decode cX13_lays 40 = .ok (.irem, 1) := by decide +kernel
theorem dX13_lays_41 : decode cX13_lays 41 = .ok (.istore 4, 2) := by decide +kernel
theorem dX13_lays_43 : decode cX13_lays 43 = .ok (.iinc 5 1, 3) := by decide +kernel
theorem dX13_lays_46 : decode cX13_lays 46 = .ok (.goto (-34), 3) := by decide +kernel
theorem dX13_lays_49 : decode cX13_lays 49 = .ok (.iload_n 3, 1) := by decide +kernel
theorem dX13_lays_50 : decode cX13_lays 50 = .ok (.ireturn, 1) := by decide +kernel
set_option maxRecDepth 20000 in
theorem ggX13_agreeOf_X13_lays : GoodIn wsX13_agreeOf wsX13_lays := goodIn_r _ [6, 1, 7, 8, 5, 9, 10, 11, 12, 13, 14, 15, 16, 17, 18, 19, 20, 21, 22, 23, 24, 25, 26, 27, 28, 29, 30, 31, 32, 33, 34, 35, 36, 37, 38, 39, 40, 41, 42, 43, 44, 45, 46, 47, 48, 49, 50, 51, 52, 53, 54, 55, 56] (by decide +kernel) (by decide +kernel)
set_option maxRecDepth 20000 in
theorem gX13_agreeOf_X13_lays : GoodIn wsX13_agreeOf (wsV RX13 298 RX13 yX13_lays wsX13_lays) := goodIn_app (goodIn_of _ (by decide +kernel)) ggX13_agreeOf_X13_lays
theorem dX13_agreeOf_0 : decode cX13_agreeOf 0 = .ok (.aload_n 0, 1) := by decide +kernel
theorem dX13_agreeOf_1 : decode cX13_agreeOf 1 = .ok (.iload_n 1, 1) := by decide +kernel
theorem dX13_agreeOf_2 : decode cX13_agreeOf 2 = .ok (.iload_n 2, 1) := by decide +kernel
theorem dX13_agreeOf_3 : decode cX13_agreeOf 3 = .ok (.invokevirtual 298, 3) := by decide +kernel
theorem dX13_agreeOf_6 : decode cX13_agreeOf 6 = .ok (.istore 4, 2) := by decide +kernel
theorem dX13_agreeOf_8 : decode cX13_agreeOf 8 = .ok (.iconst 0, 1) := by decide +kernel
theorem dX13_agreeOf_9 : decode cX13_agreeOf 9 = .ok (.istore 5, 2) := by decide +kernel
theorem dX13_agreeOf_11 : decode cX13_agreeOf 11 = .ok (.iconst 0, 1) := by decide +kernel
theorem dX13_agreeOf_12 : decode cX13_agreeOf 12 = .ok (.istore 6, 2) := by decide +kernel
theorem dX13_agreeOf_14 : decode cX13_agreeOf 14 = .ok (.iload 6, 2) := by decide +kernel
theorem dX13_agreeOf_16 : decode cX13_agreeOf 16 = .ok (.iload 4, 2) := by decide +kernel
theorem dX13_agreeOf_18 : decode cX13_agreeOf 18 = .ok (.if_icmp .ge 41, 3) := by decide +kernel
theorem dX13_agreeOf_21 : decode cX13_agreeOf 21 = .ok (.iload 5, 2) := by decide +kernel
theorem dX13_agreeOf_23 : decode cX13_agreeOf 23 = .ok (.aload_n 0, 1) := by decide +kernel
theorem dX13_agreeOf_24 : decode cX13_agreeOf 24 = .ok (.getfield 27, 3) := by decide +kernel
theorem dX13_agreeOf_27 : decode cX13_agreeOf 27 = .ok (.iload 6, 2) := by decide +kernel
theorem dX13_agreeOf_29 : decode cX13_agreeOf 29 = .ok (.iaload, 1) := by decide +kernel
theorem dX13_agreeOf_30 : decode cX13_agreeOf 30 = .ok (.aload_n 0, 1) := by decide +kernel
theorem dX13_agreeOf_31 : decode cX13_agreeOf 31 = .ok (.getfield 27, 3) := by decide +kernel
theorem dX13_agreeOf_34 : decode cX13_agreeOf 34 = .ok (.iload 6, 2) := by decide +kernel
theorem dX13_agreeOf_36 : decode cX13_agreeOf 36 = .ok (.iload_n 3, 1) := by decide +kernel
theorem dX13_agreeOf_37 : decode cX13_agreeOf 37 = .ok (.iadd, 1) := by decide +kernel
theorem dX13_agreeOf_38 : decode cX13_agreeOf 38 = .ok (.iload 4, 2) := by decide +kernel
theorem dX13_agreeOf_40 : decode cX13_agreeOf 40 = .ok (.irem, 1) := by decide +kernel
theorem dX13_agreeOf_41 : decode cX13_agreeOf 41 = .ok (.iaload, 1) := by decide +kernel
theorem dX13_agreeOf_42 : decode cX13_agreeOf 42 = .ok (.if_icmp .ne 7, 3) := by decide +kernel
theorem dX13_agreeOf_45 : decode cX13_agreeOf 45 = .ok (.iconst 1, 1) := by decide +kernel
theorem dX13_agreeOf_46 : decode cX13_agreeOf 46 = .ok (.goto 4, 3) := by decide +kernel
theorem dX13_agreeOf_49 : decode cX13_agreeOf 49 = .ok (.iconst 0, 1) := by decide +kernel
theorem dX13_agreeOf_50 : decode cX13_agreeOf 50 = .ok (.iadd, 1) := by decide +kernel
theorem dX13_agreeOf_51 : decode cX13_agreeOf 51 = .ok (.istore 5, 2) := by decide +kernel
theorem dX13_agreeOf_53 : decode cX13_agreeOf 53 = .ok (.iinc 6 1, 3) := by decide +kernel
theorem dX13_agreeOf_56 : decode cX13_agreeOf 56 = .ok (.goto (-42), 3) := by decide +kernel
theorem dX13_agreeOf_59 : decode cX13_agreeOf 59 = .ok (.iload 5, 2) := by decide +kernel
theorem dX13_agreeOf_61 : decode cX13_agreeOf 61 = .ok (.ireturn, 1) := by decide +kernel
set_option maxRecDepth 20000 in
theorem ggX13_itself_X13_turned : GoodIn wsX13_itself wsX13_turned := goodIn_r _ [4, 5, 6, 3, 7] (by decide +kernel) (by decide +kernel)
set_option maxRecDepth 20000 in
theorem gX13_itself_X13_turned : GoodIn wsX13_itself (va_wsS RX13 301 yX13_turned wsX13_turned) := goodIn_app (goodIn_of _ (by decide +kernel)) ggX13_itself_X13_turned
theorem dX13_itself_0 : decode cX13_itself 0 = .ok (.iconst 1, 1) := by decide +kernel
theorem dX13_itself_1 : decode cX13_itself 1 = .ok (.istore_n 2, 1) := by decide +kernel
theorem dX13_itself_2 : decode cX13_itself 2 = .ok (.iload_n 0, 1) := by decide +kernel
theorem dX13_itself_3 : decode cX13_itself 3 = .ok (.iload_n 1, 1) := by decide +kernel
theorem dX13_itself_4 : decode cX13_itself 4 = .ok (.invokestatic 301, 3) := by decide +kernel
theorem dX13_itself_7 : decode cX13_itself 7 = .ok (.istore_n 3, 1) := by decide +kernel
theorem dX13_itself_8 : decode cX13_itself 8 = .ok (.iload_n 3, 1) := by decide +kernel
theorem dX13_itself_9 : decode cX13_itself 9 = .ok (.iload_n 0, 1) := by decide +kernel
theorem dX13_itself_10 : decode cX13_itself 10 = .ok (.if_icmp .eq 15, 3) := by decide +kernel
theorem dX13_itself_13 : decode cX13_itself 13 = .ok (.iinc 2 1, 3) := by decide +kernel
theorem dX13_itself_16 : decode cX13_itself 16 = .ok (.iload_n 3, 1) := by decide +kernel
theorem dX13_itself_17 : decode cX13_itself 17 = .ok (.iload_n 1, 1) := by decide +kernel
theorem dX13_itself_18 : decode cX13_itself 18 = .ok (.invokestatic 301, 3) := by decide +kernel
theorem dX13_itself_21 : decode cX13_itself 21 = .ok (.istore_n 3, 1) := by decide +kernel
theorem dX13_itself_22 : decode cX13_itself 22 = .ok (.goto (-14), 3) := by decide +kernel
theorem dX13_itself_25 : decode cX13_itself 25 = .ok (.iload_n 2, 1) := by decide +kernel
theorem dX13_itself_26 : decode cX13_itself 26 = .ok (.ireturn, 1) := by decide +kernel
set_option maxRecDepth 20000 in
theorem ggX13_runsOf_X13_hexes : GoodIn wsX13_runsOf wsX13_hexes := goodIn_r _ [4, 5, 6, 3, 7, 8, 9, 10] (by decide +kernel) (by decide +kernel)
set_option maxRecDepth 20000 in
theorem gX13_runsOf_X13_hexes : GoodIn wsX13_runsOf (va_wsS RX13 304 yX13_hexes wsX13_hexes) := goodIn_app (goodIn_of _ (by decide +kernel)) ggX13_runsOf_X13_hexes
theorem dX13_runsOf_0 : decode cX13_runsOf 0 = .ok (.iload_n 0, 1) := by decide +kernel
theorem dX13_runsOf_1 : decode cX13_runsOf 1 = .ok (.iload_n 1, 1) := by decide +kernel
theorem dX13_runsOf_2 : decode cX13_runsOf 2 = .ok (.invokestatic 304, 3) := by decide +kernel
theorem dX13_runsOf_5 : decode cX13_runsOf 5 = .ok (.istore_n 2, 1) := by decide +kernel
theorem dX13_runsOf_6 : decode cX13_runsOf 6 = .ok (.iload_n 2, 1) := by decide +kernel
theorem dX13_runsOf_7 : decode cX13_runsOf 7 = .ok (.ifCond .ne 7, 3) := by decide +kernel
theorem dX13_runsOf_10 : decode cX13_runsOf 10 = .ok (.iconst 1, 1) := by decide +kernel
theorem dX13_runsOf_11 : decode cX13_runsOf 11 = .ok (.goto 4, 3) := by decide +kernel
theorem dX13_runsOf_14 : decode cX13_runsOf 14 = .ok (.iload_n 2, 1) := by decide +kernel
theorem dX13_runsOf_15 : decode cX13_runsOf 15 = .ok (.ireturn, 1) := by decide +kernel
set_option maxRecDepth 20000 in
theorem ggX13_stack_X13_isStack : GoodIn wsX13_stack wsX13_isStack := goodIn_r _ [6, 7, 60, 61, 62, 63, 64, 65, 66, 67, 68, 69, 70, 71, 72, 73, 74, 75, 76, 77, 78, 79, 80, 81, 82, 83, 84, 85, 86, 87, 88, 89, 90, 91, 92, 93, 94, 95, 96, 97, 98, 99, 100, 101, 102, 103, 104, 105, 106, 107, 108, 109, 110, 111, 112, 113] (by decide +kernel) (by decide +kernel)
set_option maxRecDepth 20000 in
theorem gX13_stack_X13_isStack : GoodIn wsX13_stack (wsV RX13 307 RX13 yX13_isStack wsX13_isStack) := goodIn_app (goodIn_of _ (by decide +kernel)) ggX13_stack_X13_isStack
set_option maxRecDepth 20000 in
theorem ggX13_stack_X13_in : GoodIn wsX13_stack wsX13_in := goodIn_r _ [10] (by decide +kernel) (by decide +kernel)
set_option maxRecDepth 20000 in
theorem gX13_stack_X13_in : GoodIn wsX13_stack (va_wsS RX13 137 yX13_in wsX13_in) := goodIn_app (goodIn_of _ (by decide +kernel)) ggX13_stack_X13_in
set_option maxRecDepth 20000 in
theorem ggX13_stack_X13_refused : GoodIn wsX13_stack wsX13_refused := goodIn_r _ [14, 15, 16, 60, 61, 62, 63, 64, 65, 66, 67, 68, 69, 70, 71, 72, 73, 74, 75, 76, 77, 78, 79, 80, 81, 82, 83, 84, 85, 86, 87, 88, 89, 90, 91, 92, 93, 94, 95, 96, 97] (by decide +kernel) (by decide +kernel)
set_option maxRecDepth 20000 in
theorem gX13_stack_X13_refused : GoodIn wsX13_stack (wsV RX13 55 RX13 yX13_refused wsX13_refused) := goodIn_app (goodIn_of _ (by decide +kernel)) ggX13_stack_X13_refused
set_option maxRecDepth 20000 in
theorem ggX13_stack_X13_steps : GoodIn wsX13_stack wsX13_steps := goodIn_r _ [20, 21, 60, 61, 62, 63, 64, 65, 66, 67, 68, 69, 70, 71, 72, 73, 74, 75, 76, 77, 78, 79, 80, 81, 82, 83, 84, 85, 86, 87, 88, 89, 90, 91, 92, 93, 94, 95, 96, 97] (by decide +kernel) (by decide +kernel)
set_option maxRecDepth 20000 in
theorem gX13_stack_X13_steps : GoodIn wsX13_stack (wsV RX13 310 RX13 yX13_steps wsX13_steps) := goodIn_app (goodIn_of _ (by decide +kernel)) ggX13_stack_X13_steps
set_option maxRecDepth 20000 in
theorem ggX13_stack_X13_row : GoodIn wsX13_stack wsX13_row := goodIn_r _ [25, 21, 60, 61, 62, 63, 64, 65, 66, 67, 68, 69, 70, 71, 72, 73, 74, 75, 76, 77, 78, 79, 80, 81, 82, 83, 84, 85, 86, 87, 88, 89, 90, 91, 92, 93, 94, 95, 96, 97] (by decide +kernel) (by decide +kernel)
set_option maxRecDepth 20000 in
theorem gX13_stack_X13_row : GoodIn wsX13_stack (wsV RX13 312 RX13 yX13_row wsX13_row) := goodIn_app (goodIn_of _ (by decide +kernel)) ggX13_stack_X13_row
set_option maxRecDepth 20000 in
theorem ggX13_stack_X13_good : GoodIn wsX13_stack wsX13_good := goodIn_r _ [29, 15, 16, 60, 61, 62, 63, 64, 65, 66, 67, 68, 69, 70, 71, 72, 73, 74, 75, 76, 77, 78, 79, 80, 81, 82, 83, 84, 85, 86, 87, 88, 89, 90, 91, 92, 93, 94, 95, 96, 97] (by decide +kernel) (by decide +kernel)
set_option maxRecDepth 20000 in
theorem gX13_stack_X13_good : GoodIn wsX13_stack (wsV RX13 59 RX13 yX13_good wsX13_good) := goodIn_app (goodIn_of _ (by decide +kernel)) ggX13_stack_X13_good
set_option maxRecDepth 20000 in
theorem ggX13_stack_X13_repeats : GoodIn wsX13_stack wsX13_repeats := goodIn_r _ [32, 33, 34, 5, 35, 36, 37, 38] (by decide +kernel) (by decide +kernel)
set_option maxRecDepth 20000 in
theorem gX13_stack_X13_repeats : GoodIn wsX13_stack (va_wsS RX13 295 yX13_repeats wsX13_repeats) := goodIn_app (goodIn_of _ (by decide +kernel)) ggX13_stack_X13_repeats
set_option maxRecDepth 20000 in
theorem ggX13_stack_X13_itself : GoodIn wsX13_stack wsX13_itself := goodIn_r _ [41, 42, 43, 5, 44, 45, 46, 47] (by decide +kernel) (by decide +kernel)
set_option maxRecDepth 20000 in
theorem gX13_stack_X13_itself : GoodIn wsX13_stack (va_wsS RX13 314 yX13_itself wsX13_itself) := goodIn_app (goodIn_of _ (by decide +kernel)) ggX13_stack_X13_itself
set_option maxRecDepth 20000 in
theorem ggX13_stack_X13_hexes : GoodIn wsX13_stack wsX13_hexes := goodIn_r _ [50, 51, 52, 5, 53, 54, 55, 56] (by decide +kernel) (by decide +kernel)
set_option maxRecDepth 20000 in
theorem gX13_stack_X13_hexes : GoodIn wsX13_stack (va_wsS RX13 304 yX13_hexes wsX13_hexes) := goodIn_app (goodIn_of _ (by decide +kernel)) ggX13_stack_X13_hexes
set_option maxRecDepth 20000 in
theorem ggX13_stack_X13_runsOf : GoodIn wsX13_stack wsX13_runsOf := goodIn_r _ [59, 48, 49, 5, 50, 51, 52, 53, 54, 55, 56] (by decide +kernel) (by decide +kernel)
set_option maxRecDepth 20000 in
theorem gX13_stack_X13_runsOf : GoodIn wsX13_stack (va_wsS RX13 317 yX13_runsOf wsX13_runsOf) := goodIn_app (goodIn_of _ (by decide +kernel)) ggX13_stack_X13_runsOf
theorem dX13_stack_0 : decode cX13_stack 0 = .ok (.aload_n 0, 1) := by decide +kernel
theorem dX13_stack_1 : decode cX13_stack 1 = .ok (.iconst 0, 1) := by decide +kernel
theorem dX13_stack_2 : decode cX13_stack 2 = .ok (.putfield 49, 3) := by decide +kernel
theorem dX13_stack_5 : decode cX13_stack 5 = .ok (.aload_n 0, 1) := by decide +kernel
theorem dX13_stack_6 : decode cX13_stack 6 = .ok (.iload_n 1, 1) := by decide +kernel
theorem dX13_stack_7 : decode cX13_stack 7 = .ok (.invokevirtual 307, 3) := by decide +kernel
theorem dX13_stack_10 : decode cX13_stack 10 = .ok (.ifCond .eq 12, 3) := by decide +kernel
theorem dX13_stack_13 : decode cX13_stack 13 = .ok (.iload_n 2, 1) := by decide +kernel
theorem dX13_stack_14 : decode cX13_stack 14 = .ok (.iconst 0, 1) := by decide +kernel
theorem dX13_stack_15 : decode cX13_stack 15 = .ok (.iconst 5, 1) := by decide +kernel
theorem dX13_stack_16 : decode cX13_stack 16 = .ok (.invokestatic 137, 3) := by decide +kernel
theorem dX13_stack_19 : decode cX13_stack 19 = .ok (.ifCond .ne 9, 3) := by decide +kernel
theorem dX13_stack_22 : decode cX13_stack 22 = .ok (.aload_n 0, 1) := by decide +kernel
theorem dX13_stack_23 : decode cX13_stack 23 = .ok (.iconst 1, 1) := by decide +kernel
theorem dX13_stack_24 : decode cX13_stack 24 = .ok (.invokevirtual 55, 3) := by decide +kernel
theorem dX13_stack_27 : decode cX13_stack 27 = .ok (.ireturn, 1) := by decide +kernel
theorem dX13_stack_28 : decode cX13_stack 28 = .ok (.aload_n 0, 1) := by decide +kernel
theorem dX13_stack_29 : decode cX13_stack 29 = .ok (.iload_n 1, 1) := by decide +kernel
theorem dX13_stack_30 : decode cX13_stack 30 = .ok (.invokevirtual 310, 3) := by decide +kernel
theorem dX13_stack_33 : decode cX13_stack 33 = .ok (.istore_n 3, 1) := by decide +kernel
theorem dX13_stack_34 : decode cX13_stack 34 = .ok (.aload_n 0, 1) := by decide +kernel
theorem dX13_stack_35 : decode cX13_stack 35 = .ok (.iload_n 1, 1) := by decide +kernel
theorem dX13_stack_36 : decode cX13_stack 36 = .ok (.invokevirtual 312, 3) := by decide +kernel
theorem dX13_stack_39 : decode cX13_stack 39 = .ok (.istore 4, 2) := by decide +kernel
theorem dX13_stack_41 : decode cX13_stack 41 = .ok (.iload_n 2, 1) := by decide +kernel
theorem dX13_stack_42 : decode cX13_stack 42 = .ok (.tableswitch 80 0 4 #[34, 40, 47, 58, 69], 34) := by decide +kernel
theorem dX13_stack_76 : decode cX13_stack 76 = .ok (.aload_n 0, 1) := by decide +kernel
theorem dX13_stack_77 : decode cX13_stack 77 = .ok (.iload_n 3, 1) := by decide +kernel
theorem dX13_stack_78 : decode cX13_stack 78 = .ok (.invokevirtual 59, 3) := by decide +kernel
theorem dX13_stack_81 : decode cX13_stack 81 = .ok (.ireturn, 1) := by decide +kernel
theorem dX13_stack_82 : decode cX13_stack 82 = .ok (.aload_n 0, 1) := by decide +kernel
theorem dX13_stack_83 : decode cX13_stack 83 = .ok (.iload 4, 2) := by decide +kernel
theorem dX13_stack_85 : decode cX13_stack 85 = .ok (.invokevirtual 59, 3) := by decide +kernel
theorem dX13_stack_88 : decode cX13_stack 88 = .ok (.ireturn, 1) := by decide +kernel
theorem dX13_stack_89 : decode cX13_stack 89 = .ok (.aload_n 0, 1) := by decide +kernel
theorem dX13_stack_90 : decode cX13_stack 90 = .ok (.iload 4, 2) := by decide +kernel
theorem dX13_stack_92 : decode cX13_stack 92 = .ok (.iload_n 3, 1) := by decide +kernel
theorem dX13_stack_93 : decode cX13_stack 93 = .ok (.invokestatic 295, 3) := by decide +kernel
theorem dX13_stack_96 : decode cX13_stack 96 = .ok (.invokevirtual 59, 3) := by decide +kernel
theorem dX13_stack_99 : decode cX13_stack 99 = .ok (.ireturn, 1) := by decide +kernel
theorem dX13_stack_100 : decode cX13_stack 100 = .ok (.aload_n 0, 1) := by decide +kernel
theorem dX13_stack_101 : decode cX13_stack 101 = .ok (.iload 4, 2) := by decide +kernel
theorem dX13_stack_103 : decode cX13_stack 103 = .ok (.iload_n 3, 1) := by decide +kernel
theorem dX13_stack_104 : decode cX13_stack 104 = .ok (.invokestatic 314, 3) := by decide +kernel
theorem dX13_stack_107 : decode cX13_stack 107 = .ok (.invokevirtual 59, 3) := by decide +kernel
theorem dX13_stack_110 : decode cX13_stack 110 = .ok (.ireturn, 1) := by decide +kernel
theorem dX13_stack_111 : decode cX13_stack 111 = .ok (.aload_n 0, 1) := by decide +kernel
theorem dX13_stack_112 : decode cX13_stack 112 = .ok (.iload 4, 2) := by decide +kernel
theorem dX13_stack_114 : decode cX13_stack 114 = .ok (.iload_n 3, 1) := by decide +kernel
theorem dX13_stack_115 : decode cX13_stack 115 = .ok (.invokestatic 304, 3) := by decide +kernel
theorem dX13_stack_118 : decode cX13_stack 118 = .ok (.invokevirtual 59, 3) := by decide +kernel
theorem dX13_stack_121 : decode cX13_stack 121 = .ok (.ireturn, 1) := by decide +kernel
theorem dX13_stack_122 : decode cX13_stack 122 = .ok (.aload_n 0, 1) := by decide +kernel
theorem dX13_stack_123 : decode cX13_stack 123 = .ok (.iload 4, 2) := by decide +kernel
theorem dX13_stack_125 : decode cX13_stack 125 = .ok (.iload_n 3, 1) := by decide +kernel
theorem dX13_stack_126 : decode cX13_stack 126 = .ok (.invokestatic 317, 3) := by decide +kernel
theorem dX13_stack_129 : decode cX13_stack 129 = .ok (.invokevirtual 59, 3) := by decide +kernel
theorem dX13_stack_132 : decode cX13_stack 132 = .ok (.ireturn, 1) := by decide +kernel
set_option maxRecDepth 20000 in
theorem ggX13_sum_X13_isStack : GoodIn wsX13_sum wsX13_isStack := goodIn_r _ [6, 7, 37, 38, 39, 40, 41, 42, 43, 44, 45, 46, 47, 48, 49, 50, 51, 52, 53, 54, 55, 56, 57, 58, 59, 60, 61, 62, 63, 64, 65, 66, 67, 68, 69, 70, 71, 72, 73, 74, 75, 76, 77, 78, 79, 80, 81, 82, 83, 84, 85, 86, 87, 88, 89, 90] (by decide +kernel) (by decide +kernel)
set_option maxRecDepth 20000 in
theorem gX13_sum_X13_isStack : GoodIn wsX13_sum (wsV RX13 307 RX13 yX13_isStack wsX13_isStack) := goodIn_app (goodIn_of _ (by decide +kernel)) ggX13_sum_X13_isStack
set_option maxRecDepth 20000 in
theorem ggX13_sum_X13_row : GoodIn wsX13_sum wsX13_row := goodIn_r _ [11, 12, 37, 38, 39, 40, 41, 42, 43, 44, 45, 46, 47, 48, 49, 50, 51, 52, 53, 54, 55, 56, 57, 58, 59, 60, 61, 62, 63, 64, 65, 66, 67, 68, 69, 70, 71, 72, 73, 74] (by decide +kernel) (by decide +kernel)
set_option maxRecDepth 20000 in
theorem gX13_sum_X13_row : GoodIn wsX13_sum (wsV RX13 312 RX13 yX13_row wsX13_row) := goodIn_app (goodIn_of _ (by decide +kernel)) ggX13_sum_X13_row
set_option maxRecDepth 20000 in
theorem ggX13_sum_X13_steps : GoodIn wsX13_sum wsX13_steps := goodIn_r _ [16, 12, 37, 38, 39, 40, 41, 42, 43, 44, 45, 46, 47, 48, 49, 50, 51, 52, 53, 54, 55, 56, 57, 58, 59, 60, 61, 62, 63, 64, 65, 66, 67, 68, 69, 70, 71, 72, 73, 74] (by decide +kernel) (by decide +kernel)
set_option maxRecDepth 20000 in
theorem gX13_sum_X13_steps : GoodIn wsX13_sum (wsV RX13 310 RX13 yX13_steps wsX13_steps) := goodIn_app (goodIn_of _ (by decide +kernel)) ggX13_sum_X13_steps
set_option maxRecDepth 20000 in
theorem ggX13_sum_X13_sumOf : GoodIn wsX13_sum wsX13_sumOf := goodIn_r _ [19, 20, 21, 5, 22] (by decide +kernel) (by decide +kernel)
set_option maxRecDepth 20000 in
theorem gX13_sum_X13_sumOf : GoodIn wsX13_sum (va_wsS RX13 282 yX13_sumOf wsX13_sumOf) := goodIn_app (goodIn_of _ (by decide +kernel)) ggX13_sum_X13_sumOf
set_option maxRecDepth 20000 in
theorem ggX13_sum_X13_good : GoodIn wsX13_sum wsX13_good := goodIn_r _ [26, 27, 28, 37, 38, 39, 40, 41, 42, 43, 44, 45, 46, 47, 48, 49, 50, 51, 52, 53, 54, 55, 56, 57, 58, 59, 60, 61, 62, 63, 64, 65, 66, 67, 68, 69, 70, 71, 72, 73, 74] (by decide +kernel) (by decide +kernel)
set_option maxRecDepth 20000 in
theorem gX13_sum_X13_good : GoodIn wsX13_sum (wsV RX13 59 RX13 yX13_good wsX13_good) := goodIn_app (goodIn_of _ (by decide +kernel)) ggX13_sum_X13_good
set_option maxRecDepth 20000 in
theorem ggX13_sum_X13_lost : GoodIn wsX13_sum wsX13_lost := goodIn_r _ [32, 33, 34, 35, 5, 36, 27, 28, 37, 38, 39, 40, 41, 42, 43, 44, 45, 46, 47, 48, 49, 50, 51, 52, 53, 54, 55, 56, 57, 58, 59, 60, 61, 62, 63, 64, 65, 66, 67, 68, 69, 70, 71, 72, 73, 74] (by decide +kernel) (by decide +kernel)
set_option maxRecDepth 20000 in
theorem gX13_sum_X13_lost : GoodIn wsX13_sum (wsV RX13 320 RX13 yX13_lost wsX13_lost) := goodIn_app (goodIn_of _ (by decide +kernel)) ggX13_sum_X13_lost
theorem dX13_sum_0 : decode cX13_sum 0 = .ok (.aload_n 0, 1) := by decide +kernel
theorem dX13_sum_1 : decode cX13_sum 1 = .ok (.iconst 0, 1) := by decide +kernel
theorem dX13_sum_2 : decode cX13_sum 2 = .ok (.putfield 49, 3) := by decide +kernel
theorem dX13_sum_5 : decode cX13_sum 5 = .ok (.aload_n 0, 1) := by decide +kernel
theorem dX13_sum_6 : decode cX13_sum 6 = .ok (.iload_n 1, 1) := by decide +kernel
theorem dX13_sum_7 : decode cX13_sum 7 = .ok (.invokevirtual 307, 3) := by decide +kernel
theorem dX13_sum_10 : decode cX13_sum 10 = .ok (.ifCond .eq 23, 3) := by decide +kernel
theorem dX13_sum_13 : decode cX13_sum 13 = .ok (.aload_n 0, 1) := by decide +kernel
theorem dX13_sum_14 : decode cX13_sum 14 = .ok (.aload_n 0, 1) := by decide +kernel
theorem dX13_sum_15 : decode cX13_sum 15 = .ok (.iload_n 1, 1) := by decide +kernel
theorem dX13_sum_16 : decode cX13_sum 16 = .ok (.invokevirtual 312, 3) := by decide +kernel
theorem dX13_sum_19 : decode cX13_sum 19 = .ok (.aload_n 0, 1) := by decide +kernel
theorem dX13_sum_20 : decode cX13_sum 20 = .ok (.iload_n 1, 1) := by decide +kernel
theorem dX13_sum_21 : decode cX13_sum 21 = .ok (.invokevirtual 310, 3) := by decide +kernel
theorem dX13_sum_24 : decode cX13_sum 24 = .ok (.invokestatic 282, 3) := by decide +kernel
theorem dX13_sum_27 : decode cX13_sum 27 = .ok (.invokevirtual 59, 3) := by decide +kernel
theorem dX13_sum_30 : decode cX13_sum 30 = .ok (.goto 10, 3) := by decide +kernel
theorem dX13_sum_33 : decode cX13_sum 33 = .ok (.aload_n 0, 1) := by decide +kernel
theorem dX13_sum_34 : decode cX13_sum 34 = .ok (.iconst 1, 1) := by decide +kernel
theorem dX13_sum_35 : decode cX13_sum 35 = .ok (.bipush (-100), 2) := by decide +kernel
theorem dX13_sum_37 : decode cX13_sum 37 = .ok (.invokevirtual 320, 3) := by decide +kernel
theorem dX13_sum_40 : decode cX13_sum 40 = .ok (.ireturn, 1) := by decide +kernel
set_option maxRecDepth 20000 in
theorem ggX13_layer_X13_isStack : GoodIn wsX13_layer wsX13_isStack := goodIn_r _ [7, 8, 47, 48, 49, 50, 51, 52, 53, 54, 55, 56, 57, 58, 59, 60, 61, 62, 63, 64, 65, 66, 67, 68, 69, 70, 71, 72, 73, 74, 75, 76, 77, 78, 79, 80, 81, 82, 83, 84, 85, 86, 87, 88, 89, 90, 91, 92, 93, 94, 95, 96, 97, 98, 99, 100] (by decide +kernel) (by decide +kernel)
set_option maxRecDepth 20000 in
theorem gX13_layer_X13_isStack : GoodIn wsX13_layer (wsV RX13 307 RX13 yX13_isStack wsX13_isStack) := goodIn_app (goodIn_of _ (by decide +kernel)) ggX13_layer_X13_isStack
set_option maxRecDepth 20000 in
theorem ggX13_layer_X13_refused : GoodIn wsX13_layer wsX13_refused := goodIn_r _ [12, 13, 14, 47, 48, 49, 50, 51, 52, 53, 54, 55, 56, 57, 58, 59, 60, 61, 62, 63, 64, 65, 66, 67, 68, 69, 70, 71, 72, 73, 74, 75, 76, 77, 78, 79, 80, 81, 82, 83, 84] (by decide +kernel) (by decide +kernel)
set_option maxRecDepth 20000 in
theorem gX13_layer_X13_refused : GoodIn wsX13_layer (wsV RX13 55 RX13 yX13_refused wsX13_refused) := goodIn_app (goodIn_of _ (by decide +kernel)) ggX13_layer_X13_refused
set_option maxRecDepth 20000 in
theorem ggX13_layer_X13_in : GoodIn wsX13_layer wsX13_in := goodIn_r _ [17] (by decide +kernel) (by decide +kernel)
set_option maxRecDepth 20000 in
theorem gX13_layer_X13_in : GoodIn wsX13_layer (va_wsS RX13 137 yX13_in wsX13_in) := goodIn_app (goodIn_of _ (by decide +kernel)) ggX13_layer_X13_in
set_option maxRecDepth 20000 in
theorem ggX13_layer_X13_row : GoodIn wsX13_layer wsX13_row := goodIn_r _ [21, 22, 47, 48, 49, 50, 51, 52, 53, 54, 55, 56, 57, 58, 59, 60, 61, 62, 63, 64, 65, 66, 67, 68, 69, 70, 71, 72, 73, 74, 75, 76, 77, 78, 79, 80, 81, 82, 83, 84] (by decide +kernel) (by decide +kernel)
set_option maxRecDepth 20000 in
theorem gX13_layer_X13_row : GoodIn wsX13_layer (wsV RX13 312 RX13 yX13_row wsX13_row) := goodIn_app (goodIn_of _ (by decide +kernel)) ggX13_layer_X13_row
set_option maxRecDepth 20000 in
theorem ggX13_layer_X13_steps : GoodIn wsX13_layer wsX13_steps := goodIn_r _ [26, 22, 47, 48, 49, 50, 51, 52, 53, 54, 55, 56, 57, 58, 59, 60, 61, 62, 63, 64, 65, 66, 67, 68, 69, 70, 71, 72, 73, 74, 75, 76, 77, 78, 79, 80, 81, 82, 83, 84] (by decide +kernel) (by decide +kernel)
set_option maxRecDepth 20000 in
theorem gX13_layer_X13_steps : GoodIn wsX13_layer (wsV RX13 310 RX13 yX13_steps wsX13_steps) := goodIn_app (goodIn_of _ (by decide +kernel)) ggX13_layer_X13_steps
set_option maxRecDepth 20000 in
theorem ggX13_layer_X13_lays : GoodIn wsX13_layer wsX13_lays := goodIn_r _ [30, 2, 31, 32, 6, 33, 34, 35, 36, 37, 38, 39, 40, 41, 42, 47, 48, 49, 50, 51, 52, 53, 54, 55, 56, 57, 58, 59, 60, 61, 62, 63, 64, 65, 66, 67, 68, 69, 70, 71, 72, 73, 74, 75, 76, 77, 78, 79, 80, 81, 82, 83, 84] (by decide +kernel) (by decide +kernel)
set_option maxRecDepth 20000 in
theorem gX13_layer_X13_lays : GoodIn wsX13_layer (wsV RX13 298 RX13 yX13_lays wsX13_lays) := goodIn_app (goodIn_of _ (by decide +kernel)) ggX13_layer_X13_lays
set_option maxRecDepth 20000 in
theorem ggX13_layer_X13_good : GoodIn wsX13_layer wsX13_good := goodIn_r _ [46, 13, 14, 47, 48, 49, 50, 51, 52, 53, 54, 55, 56, 57, 58, 59, 60, 61, 62, 63, 64, 65, 66, 67, 68, 69, 70, 71, 72, 73, 74, 75, 76, 77, 78, 79, 80, 81, 82, 83, 84] (by decide +kernel) (by decide +kernel)
set_option maxRecDepth 20000 in
theorem gX13_layer_X13_good : GoodIn wsX13_layer (wsV RX13 59 RX13 yX13_good wsX13_good) := goodIn_app (goodIn_of _ (by decide +kernel)) ggX13_layer_X13_good
theorem dX13_layer_0 : decode cX13_layer 0 = .ok (.aload_n 0, 1) := by decide +kernel
theorem dX13_layer_1 : decode cX13_layer 1 = .ok (.iconst 0, 1) := by decide +kernel
theorem dX13_layer_2 : decode cX13_layer 2 = .ok (.putfield 49, 3) := by decide +kernel
theorem dX13_layer_5 : decode cX13_layer 5 = .ok (.aload_n 0, 1) := by decide +kernel
theorem dX13_layer_6 : decode cX13_layer 6 = .ok (.iload_n 1, 1) := by decide +kernel
theorem dX13_layer_7 : decode cX13_layer 7 = .ok (.invokevirtual 307, 3) := by decide +kernel
theorem dX13_layer_10 : decode cX13_layer 10 = .ok (.ifCond .ne 9, 3) := by decide +kernel
theorem dX13_layer_13 : decode cX13_layer 13 = .ok (.aload_n 0, 1) := by decide +kernel
theorem dX13_layer_14 : decode cX13_layer 14 = .ok (.iconst 1, 1) := by decide +kernel
theorem dX13_layer_15 : decode cX13_layer 15 = .ok (.invokevirtual 55, 3) := by decide +kernel
theorem dX13_layer_18 : decode cX13_layer 18 = .ok (.ireturn, 1) := by decide +kernel
theorem dX13_layer_19 : decode cX13_layer 19 = .ok (.iload_n 2, 1) := by decide +kernel
theorem dX13_layer_20 : decode cX13_layer 20 = .ok (.iconst 0, 1) := by decide +kernel
theorem dX13_layer_21 : decode cX13_layer 21 = .ok (.bipush 35, 2) := by decide +kernel
theorem dX13_layer_23 : decode cX13_layer 23 = .ok (.invokestatic 137, 3) := by decide +kernel
theorem dX13_layer_26 : decode cX13_layer 26 = .ok (.ifCond .ne 9, 3) := by decide +kernel
theorem dX13_layer_29 : decode cX13_layer 29 = .ok (.aload_n 0, 1) := by decide +kernel
theorem dX13_layer_30 : decode cX13_layer 30 = .ok (.iconst 2, 1) := by decide +kernel
theorem dX13_layer_31 : decode cX13_layer 31 = .ok (.invokevirtual 55, 3) := by decide +kernel
theorem dX13_layer_34 : decode cX13_layer 34 = .ok (.ireturn, 1) := by decide +kernel
theorem dX13_layer_35 : decode cX13_layer 35 = .ok (.aload_n 0, 1) := by decide +kernel
theorem dX13_layer_36 : decode cX13_layer 36 = .ok (.aload_n 0, 1) := by decide +kernel
theorem dX13_layer_37 : decode cX13_layer 37 = .ok (.iload_n 1, 1) := by decide +kernel
theorem dX13_layer_38 : decode cX13_layer 38 = .ok (.invokevirtual 312, 3) := by decide +kernel
theorem dX13_layer_41 : decode cX13_layer 41 = .ok (.aload_n 0, 1) := by decide +kernel
theorem dX13_layer_42 : decode cX13_layer 42 = .ok (.iload_n 1, 1) := by decide +kernel
theorem dX13_layer_43 : decode cX13_layer 43 = .ok (.invokevirtual 310, 3) := by decide +kernel
theorem dX13_layer_46 : decode cX13_layer 46 = .ok (.invokevirtual 298, 3) := by decide +kernel
theorem dX13_layer_49 : decode cX13_layer 49 = .ok (.istore_n 3, 1) := by decide +kernel
theorem dX13_layer_50 : decode cX13_layer 50 = .ok (.aload_n 0, 1) := by decide +kernel
theorem dX13_layer_51 : decode cX13_layer 51 = .ok (.aload_n 0, 1) := by decide +kernel
theorem dX13_layer_52 : decode cX13_layer 52 = .ok (.getfield 27, 3) := by decide +kernel
theorem dX13_layer_55 : decode cX13_layer 55 = .ok (.iload_n 2, 1) := by decide +kernel
theorem dX13_layer_56 : decode cX13_layer 56 = .ok (.iload_n 3, 1) := by decide +kernel
theorem dX13_layer_57 : decode cX13_layer 57 = .ok (.irem, 1) := by decide +kernel
theorem dX13_layer_58 : decode cX13_layer 58 = .ok (.iaload, 1) := by decide +kernel
theorem dX13_layer_59 : decode cX13_layer 59 = .ok (.invokevirtual 59, 3) := by decide +kernel
theorem dX13_layer_62 : decode cX13_layer 62 = .ok (.ireturn, 1) := by decide +kernel
set_option maxRecDepth 20000 in
theorem ggX13_hex_X13_isStack : GoodIn wsX13_hex wsX13_isStack := goodIn_r _ [6, 7, 36, 37, 38, 39, 40, 41, 42, 43, 44, 45, 46, 47, 48, 49, 50, 51, 52, 53, 54, 55, 56, 57, 58, 59, 60, 61, 62, 63, 64, 65, 66, 67, 68, 69, 70, 71, 72, 73, 74, 75, 76, 77, 78, 79, 80, 81, 82, 83, 84, 85, 86, 87, 88, 89] (by decide +kernel) (by decide +kernel)
