set_option maxRecDepth 20000 in
theorem gX13_faultEnergy_X13_row : GoodIn wsX13_faultEnergy (wsV RX13 312 RX13 yX13_row wsX13_row) := goodIn_app (goodIn_of _ (by decide +kernel)) ggX13_faultEnergy_X13_row
set_option maxRecDepth 20000 in
theorem ggX13_faultEnergy_X13_faulted : GoodIn wsX13_faultEnergy wsX13_faulted := goodIn_r _ [33, 34, 35, 6, 36] (by decide +kernel) (by decide +kernel)
set_option maxRecDepth 20000 in
theorem gX13_faultEnergy_X13_faulted : GoodIn wsX13_faultEnergy (va_wsS RX13 378 yX13_faulted wsX13_faulted) := goodIn_app (goodIn_of _ (by decide +kernel)) ggX13_faultEnergy_X13_faulted
set_option maxRecDepth 20000 in
theorem ggX13_faultEnergy_X13_energyOf : GoodIn wsX13_faultEnergy wsX13_energyOf := goodIn_r _ [40, 8, 41, 42, 6, 43, 48, 49, 50, 51, 52, 53, 54, 55, 56, 57, 58, 59, 60, 61, 62, 63, 64, 65, 66, 67, 68, 69, 70, 71, 72, 73, 74, 75, 76, 77, 78, 79, 80, 81, 82, 83, 84, 85, 86, 87, 88, 89, 90, 91, 92, 93, 94, 95, 96, 97, 98, 99, 100, 101] (by decide +kernel) (by decide +kernel)
set_option maxRecDepth 20000 in
theorem gX13_faultEnergy_X13_energyOf : GoodIn wsX13_faultEnergy (wsV RX13 330 RX13 yX13_energyOf wsX13_energyOf) := goodIn_app (goodIn_of _ (by decide +kernel)) ggX13_faultEnergy_X13_energyOf
set_option maxRecDepth 20000 in
theorem ggX13_faultEnergy_X13_good : GoodIn wsX13_faultEnergy wsX13_good := goodIn_r _ [47, 17, 18, 48, 49, 50, 51, 52, 53, 54, 55, 56, 57, 58, 59, 60, 61, 62, 63, 64, 65, 66, 67, 68, 69, 70, 71, 72, 73, 74, 75, 76, 77, 78, 79, 80, 81, 82, 83, 84, 85] (by decide +kernel) (by decide +kernel)
set_option maxRecDepth 20000 in
theorem gX13_faultEnergy_X13_good : GoodIn wsX13_faultEnergy (wsV RX13 59 RX13 yX13_good wsX13_good) := goodIn_app (goodIn_of _ (by decide +kernel)) ggX13_faultEnergy_X13_good
theorem dX13_faultEnergy_0 : decode cX13_faultEnergy 0 = .ok (.aload_n 0, 1) := by decide +kernel
theorem dX13_faultEnergy_1 : decode cX13_faultEnergy 1 = .ok (.iconst 0, 1) := by decide +kernel
theorem dX13_faultEnergy_2 : decode cX13_faultEnergy 2 = .ok (.putfield 49, 3) := by decide +kernel
theorem dX13_faultEnergy_5 : decode cX13_faultEnergy 5 = .ok (.aload_n 0, 1) := by decide +kernel
theorem dX13_faultEnergy_6 : decode cX13_faultEnergy 6 = .ok (.iload_n 1, 1) := by decide +kernel
theorem dX13_faultEnergy_7 : decode cX13_faultEnergy 7 = .ok (.invokevirtual 307, 3) := by decide +kernel
theorem dX13_faultEnergy_10 : decode cX13_faultEnergy 10 = .ok (.ifCond .ne 12, 3) := by decide +kernel
theorem dX13_faultEnergy_13 : decode cX13_faultEnergy 13 = .ok (.aload_n 0, 1) := by decide +kernel
theorem dX13_faultEnergy_14 : decode cX13_faultEnergy 14 = .ok (.iconst 1, 1) := by decide +kernel
theorem dX13_faultEnergy_15 : decode cX13_faultEnergy 15 = .ok (.ldc_w 333, 3) := by decide +kernel
theorem dX13_faultEnergy_18 : decode cX13_faultEnergy 18 = .ok (.invokevirtual 320, 3) := by decide +kernel
theorem dX13_faultEnergy_21 : decode cX13_faultEnergy 21 = .ok (.ireturn, 1) := by decide +kernel
theorem dX13_faultEnergy_22 : decode cX13_faultEnergy 22 = .ok (.iload_n 2, 1) := by decide +kernel
theorem dX13_faultEnergy_23 : decode cX13_faultEnergy 23 = .ok (.iconst 1, 1) := by decide +kernel
theorem dX13_faultEnergy_24 : decode cX13_faultEnergy 24 = .ok (.aload_n 0, 1) := by decide +kernel
theorem dX13_faultEnergy_25 : decode cX13_faultEnergy 25 = .ok (.iload_n 1, 1) := by decide +kernel
theorem dX13_faultEnergy_26 : decode cX13_faultEnergy 26 = .ok (.invokevirtual 310, 3) := by decide +kernel
theorem dX13_faultEnergy_29 : decode cX13_faultEnergy 29 = .ok (.iconst 1, 1) := by decide +kernel
theorem dX13_faultEnergy_30 : decode cX13_faultEnergy 30 = .ok (.isub, 1) := by decide +kernel
theorem dX13_faultEnergy_31 : decode cX13_faultEnergy 31 = .ok (.invokestatic 137, 3) := by decide +kernel
theorem dX13_faultEnergy_34 : decode cX13_faultEnergy 34 = .ok (.ifCond .ne 12, 3) := by decide +kernel
theorem dX13_faultEnergy_37 : decode cX13_faultEnergy 37 = .ok (.aload_n 0, 1) := by decide +kernel
theorem dX13_faultEnergy_38 : decode cX13_faultEnergy 38 = .ok (.iconst 2, 1) := by decide +kernel
theorem dX13_faultEnergy_39 : decode cX13_faultEnergy 39 = .ok (.ldc_w 333, 3) := by decide +kernel
theorem dX13_faultEnergy_42 : decode cX13_faultEnergy 42 = .ok (.invokevirtual 320, 3) := by decide +kernel
theorem dX13_faultEnergy_45 : decode cX13_faultEnergy 45 = .ok (.ireturn, 1) := by decide +kernel
theorem dX13_faultEnergy_46 : decode cX13_faultEnergy 46 = .ok (.aload_n 0, 1) := by decide +kernel
theorem dX13_faultEnergy_47 : decode cX13_faultEnergy 47 = .ok (.aload_n 0, 1) := by decide +kernel
theorem dX13_faultEnergy_48 : decode cX13_faultEnergy 48 = .ok (.aload_n 0, 1) := by decide +kernel
theorem dX13_faultEnergy_49 : decode cX13_faultEnergy 49 = .ok (.iload_n 1, 1) := by decide +kernel
theorem dX13_faultEnergy_50 : decode cX13_faultEnergy 50 = .ok (.invokevirtual 312, 3) := by decide +kernel
theorem dX13_faultEnergy_53 : decode cX13_faultEnergy 53 = .ok (.aload_n 0, 1) := by decide +kernel
theorem dX13_faultEnergy_54 : decode cX13_faultEnergy 54 = .ok (.iload_n 1, 1) := by decide +kernel
theorem dX13_faultEnergy_55 : decode cX13_faultEnergy 55 = .ok (.invokevirtual 310, 3) := by decide +kernel
theorem dX13_faultEnergy_58 : decode cX13_faultEnergy 58 = .ok (.iload_n 2, 1) := by decide +kernel
theorem dX13_faultEnergy_59 : decode cX13_faultEnergy 59 = .ok (.invokestatic 378, 3) := by decide +kernel
theorem dX13_faultEnergy_62 : decode cX13_faultEnergy 62 = .ok (.aload_n 0, 1) := by decide +kernel
theorem dX13_faultEnergy_63 : decode cX13_faultEnergy 63 = .ok (.iload_n 1, 1) := by decide +kernel
theorem dX13_faultEnergy_64 : decode cX13_faultEnergy 64 = .ok (.invokevirtual 310, 3) := by decide +kernel
theorem dX13_faultEnergy_67 : decode cX13_faultEnergy 67 = .ok (.invokevirtual 330, 3) := by decide +kernel
theorem dX13_faultEnergy_70 : decode cX13_faultEnergy 70 = .ok (.invokevirtual 59, 3) := by decide +kernel
theorem dX13_faultEnergy_73 : decode cX13_faultEnergy 73 = .ok (.ireturn, 1) := by decide +kernel
set_option maxRecDepth 20000 in
theorem ggX13_bestFault_X13_isStack : GoodIn wsX13_bestFault wsX13_isStack := goodIn_r _ [6, 7, 40, 41, 42, 43, 44, 45, 46, 47, 48, 49, 50, 51, 52, 53, 54, 55, 56, 57, 58, 59, 60, 61, 62, 63, 64, 65, 66, 67, 68, 69, 70, 71, 72, 73, 74, 75, 76, 77, 78, 79, 80, 81, 82, 83, 84, 85, 86, 87, 88, 89, 90, 91, 92, 93] (by decide +kernel) (by decide +kernel)
set_option maxRecDepth 20000 in
theorem gX13_bestFault_X13_isStack : GoodIn wsX13_bestFault (wsV RX13 307 RX13 yX13_isStack wsX13_isStack) := goodIn_app (goodIn_of _ (by decide +kernel)) ggX13_bestFault_X13_isStack
set_option maxRecDepth 20000 in
theorem ggX13_bestFault_X13_refused : GoodIn wsX13_bestFault wsX13_refused := goodIn_r _ [11, 12, 13, 40, 41, 42, 43, 44, 45, 46, 47, 48, 49, 50, 51, 52, 53, 54, 55, 56, 57, 58, 59, 60, 61, 62, 63, 64, 65, 66, 67, 68, 69, 70, 71, 72, 73, 74, 75, 76, 77] (by decide +kernel) (by decide +kernel)
set_option maxRecDepth 20000 in
theorem gX13_bestFault_X13_refused : GoodIn wsX13_bestFault (wsV RX13 55 RX13 yX13_refused wsX13_refused) := goodIn_app (goodIn_of _ (by decide +kernel)) ggX13_bestFault_X13_refused
set_option maxRecDepth 20000 in
theorem ggX13_bestFault_X13_steps : GoodIn wsX13_bestFault wsX13_steps := goodIn_r _ [17, 18, 40, 41, 42, 43, 44, 45, 46, 47, 48, 49, 50, 51, 52, 53, 54, 55, 56, 57, 58, 59, 60, 61, 62, 63, 64, 65, 66, 67, 68, 69, 70, 71, 72, 73, 74, 75, 76, 77] (by decide +kernel) (by decide +kernel)
set_option maxRecDepth 20000 in
theorem gX13_bestFault_X13_steps : GoodIn wsX13_bestFault (wsV RX13 310 RX13 yX13_steps wsX13_steps) := goodIn_app (goodIn_of _ (by decide +kernel)) ggX13_bestFault_X13_steps
set_option maxRecDepth 20000 in
theorem ggX13_bestFault_X13_row : GoodIn wsX13_bestFault wsX13_row := goodIn_r _ [22, 18, 40, 41, 42, 43, 44, 45, 46, 47, 48, 49, 50, 51, 52, 53, 54, 55, 56, 57, 58, 59, 60, 61, 62, 63, 64, 65, 66, 67, 68, 69, 70, 71, 72, 73, 74, 75, 76, 77] (by decide +kernel) (by decide +kernel)
set_option maxRecDepth 20000 in
theorem gX13_bestFault_X13_row : GoodIn wsX13_bestFault (wsV RX13 312 RX13 yX13_row wsX13_row) := goodIn_app (goodIn_of _ (by decide +kernel)) ggX13_bestFault_X13_row
set_option maxRecDepth 20000 in
theorem ggX13_bestFault_X13_faulted : GoodIn wsX13_bestFault wsX13_faulted := goodIn_r _ [25, 26, 27, 5, 28] (by decide +kernel) (by decide +kernel)
set_option maxRecDepth 20000 in
theorem gX13_bestFault_X13_faulted : GoodIn wsX13_bestFault (va_wsS RX13 378 yX13_faulted wsX13_faulted) := goodIn_app (goodIn_of _ (by decide +kernel)) ggX13_bestFault_X13_faulted
set_option maxRecDepth 20000 in
theorem ggX13_bestFault_X13_energyOf : GoodIn wsX13_bestFault wsX13_energyOf := goodIn_r _ [32, 7, 33, 34, 5, 35, 40, 41, 42, 43, 44, 45, 46, 47, 48, 49, 50, 51, 52, 53, 54, 55, 56, 57, 58, 59, 60, 61, 62, 63, 64, 65, 66, 67, 68, 69, 70, 71, 72, 73, 74, 75, 76, 77, 78, 79, 80, 81, 82, 83, 84, 85, 86, 87, 88, 89, 90, 91, 92, 93] (by decide +kernel) (by decide +kernel)
set_option maxRecDepth 20000 in
theorem gX13_bestFault_X13_energyOf : GoodIn wsX13_bestFault (wsV RX13 330 RX13 yX13_energyOf wsX13_energyOf) := goodIn_app (goodIn_of _ (by decide +kernel)) ggX13_bestFault_X13_energyOf
set_option maxRecDepth 20000 in
theorem ggX13_bestFault_X13_good : GoodIn wsX13_bestFault wsX13_good := goodIn_r _ [39, 12, 13, 40, 41, 42, 43, 44, 45, 46, 47, 48, 49, 50, 51, 52, 53, 54, 55, 56, 57, 58, 59, 60, 61, 62, 63, 64, 65, 66, 67, 68, 69, 70, 71, 72, 73, 74, 75, 76, 77] (by decide +kernel) (by decide +kernel)
set_option maxRecDepth 20000 in
theorem gX13_bestFault_X13_good : GoodIn wsX13_bestFault (wsV RX13 59 RX13 yX13_good wsX13_good) := goodIn_app (goodIn_of _ (by decide +kernel)) ggX13_bestFault_X13_good
theorem dX13_bestFault_0 : decode cX13_bestFault 0 = .ok (.aload_n 0, 1) := by decide +kernel
theorem dX13_bestFault_1 : decode cX13_bestFault 1 = .ok (.iconst 0, 1) := by decide +kernel
theorem dX13_bestFault_2 : decode cX13_bestFault 2 = .ok (.putfield 49, 3) := by decide +kernel
theorem dX13_bestFault_5 : decode cX13_bestFault 5 = .ok (.aload_n 0, 1) := by decide +kernel
theorem dX13_bestFault_6 : decode cX13_bestFault 6 = .ok (.iload_n 1, 1) := by decide +kernel
theorem dX13_bestFault_7 : decode cX13_bestFault 7 = .ok (.invokevirtual 307, 3) := by decide +kernel
theorem dX13_bestFault_10 : decode cX13_bestFault 10 = .ok (.ifCond .ne 9, 3) := by decide +kernel
theorem dX13_bestFault_13 : decode cX13_bestFault 13 = .ok (.aload_n 0, 1) := by decide +kernel
theorem dX13_bestFault_14 : decode cX13_bestFault 14 = .ok (.iconst 1, 1) := by decide +kernel
theorem dX13_bestFault_15 : decode cX13_bestFault 15 = .ok (.invokevirtual 55, 3) := by decide +kernel
theorem dX13_bestFault_18 : decode cX13_bestFault 18 = .ok (.ireturn, 1) := by decide +kernel
theorem dX13_bestFault_19 : decode cX13_bestFault 19 = .ok (.aload_n 0, 1) := by decide +kernel
theorem dX13_bestFault_20 : decode cX13_bestFault 20 = .ok (.iload_n 1, 1) := by decide +kernel
theorem dX13_bestFault_21 : decode cX13_bestFault 21 = .ok (.invokevirtual 310, 3) := by decide +kernel
theorem dX13_bestFault_24 : decode cX13_bestFault 24 = .ok (.istore_n 2, 1) := by decide +kernel
theorem dX13_bestFault_25 : decode cX13_bestFault 25 = .ok (.iconst 1, 1) := by decide +kernel
theorem dX13_bestFault_26 : decode cX13_bestFault 26 = .ok (.istore_n 3, 1) := by decide +kernel
theorem dX13_bestFault_27 : decode cX13_bestFault 27 = .ok (.iconst 2, 1) := by decide +kernel
theorem dX13_bestFault_28 : decode cX13_bestFault 28 = .ok (.istore 4, 2) := by decide +kernel
theorem dX13_bestFault_30 : decode cX13_bestFault 30 = .ok (.iload 4, 2) := by decide +kernel
theorem dX13_bestFault_32 : decode cX13_bestFault 32 = .ok (.iload_n 2, 1) := by decide +kernel
theorem dX13_bestFault_33 : decode cX13_bestFault 33 = .ok (.if_icmp .ge 46, 3) := by decide +kernel
theorem dX13_bestFault_36 : decode cX13_bestFault 36 = .ok (.aload_n 0, 1) := by decide +kernel
theorem dX13_bestFault_37 : decode cX13_bestFault 37 = .ok (.aload_n 0, 1) := by decide +kernel
theorem dX13_bestFault_38 : decode cX13_bestFault 38 = .ok (.iload_n 1, 1) := by decide +kernel
theorem dX13_bestFault_39 : decode cX13_bestFault 39 = .ok (.invokevirtual 312, 3) := by decide +kernel
theorem dX13_bestFault_42 : decode cX13_bestFault 42 = .ok (.iload_n 2, 1) := by decide +kernel
theorem dX13_bestFault_43 : decode cX13_bestFault 43 = .ok (.iload 4, 2) := by decide +kernel
theorem dX13_bestFault_45 : decode cX13_bestFault 45 = .ok (.invokestatic 378, 3) := by decide +kernel
theorem dX13_bestFault_48 : decode cX13_bestFault 48 = .ok (.iload_n 2, 1) := by decide +kernel
theorem dX13_bestFault_49 : decode cX13_bestFault 49 = .ok (.invokevirtual 330, 3) := by decide +kernel
theorem dX13_bestFault_52 : decode cX13_bestFault 52 = .ok (.aload_n 0, 1) := by decide +kernel
theorem dX13_bestFault_53 : decode cX13_bestFault 53 = .ok (.aload_n 0, 1) := by decide +kernel
theorem dX13_bestFault_54 : decode cX13_bestFault 54 = .ok (.iload_n 1, 1) := by decide +kernel
theorem dX13_bestFault_55 : decode cX13_bestFault 55 = .ok (.invokevirtual 312, 3) := by decide +kernel
theorem dX13_bestFault_58 : decode cX13_bestFault 58 = .ok (.iload_n 2, 1) := by decide +kernel
theorem dX13_bestFault_59 : decode cX13_bestFault 59 = .ok (.iload_n 3, 1) := by decide +kernel
theorem dX13_bestFault_60 : decode cX13_bestFault 60 = .ok (.invokestatic 378, 3) := by decide +kernel
theorem dX13_bestFault_63 : decode cX13_bestFault 63 = .ok (.iload_n 2, 1) := by decide +kernel
theorem dX13_bestFault_64 : decode cX13_bestFault 64 = .ok (.invokevirtual 330, 3) := by decide +kernel
theorem dX13_bestFault_67 : decode cX13_bestFault 67 = .ok (.if_icmp .ge 6, 3) := by decide +kernel
theorem dX13_bestFault_70 : decode cX13_bestFault 70 = .ok (.iload 4, 2) := by decide +kernel
theorem dX13_bestFault_72 : decode cX13_bestFault 72 = .ok (.istore_n 3, 1) := by decide +kernel
theorem dX13_bestFault_73 : decode cX13_bestFault 73 = .ok (.iinc 4 1, 3) := by decide +kernel
theorem dX13_bestFault_76 : decode cX13_bestFault 76 = .ok (.goto (-46), 3) := by decide +kernel
theorem dX13_bestFault_79 : decode cX13_bestFault 79 = .ok (.aload_n 0, 1) := by decide +kernel
theorem dX13_bestFault_80 : decode cX13_bestFault 80 = .ok (.iload_n 3, 1) := by decide +kernel
theorem dX13_bestFault_81 : decode cX13_bestFault 81 = .ok (.invokevirtual 59, 3) := by decide +kernel
theorem dX13_bestFault_84 : decode cX13_bestFault 84 = .ok (.ireturn, 1) := by decide +kernel
set_option maxRecDepth 20000 in
theorem ggX13_relaxing_X13_steps : GoodIn wsX13_relaxing wsX13_steps := goodIn_r _ [6, 7, 27, 28, 29, 30, 31, 32, 33, 34, 35, 36, 37, 38, 39, 40, 41, 42, 43, 44, 45, 46, 47, 48, 49, 50, 51, 52, 53, 54, 55, 56, 57, 58, 59, 60, 61, 62, 63, 64] (by decide +kernel) (by decide +kernel)
set_option maxRecDepth 20000 in
theorem gX13_relaxing_X13_steps : GoodIn wsX13_relaxing (wsV RX13 310 RX13 yX13_steps wsX13_steps) := goodIn_app (goodIn_of _ (by decide +kernel)) ggX13_relaxing_X13_steps
set_option maxRecDepth 20000 in
theorem ggX13_relaxing_X13_row : GoodIn wsX13_relaxing wsX13_row := goodIn_r _ [11, 7, 27, 28, 29, 30, 31, 32, 33, 34, 35, 36, 37, 38, 39, 40, 41, 42, 43, 44, 45, 46, 47, 48, 49, 50, 51, 52, 53, 54, 55, 56, 57, 58, 59, 60, 61, 62, 63, 64] (by decide +kernel) (by decide +kernel)
set_option maxRecDepth 20000 in
theorem gX13_relaxing_X13_row : GoodIn wsX13_relaxing (wsV RX13 312 RX13 yX13_row wsX13_row) := goodIn_app (goodIn_of _ (by decide +kernel)) ggX13_relaxing_X13_row
set_option maxRecDepth 20000 in
theorem ggX13_relaxing_X13_weakestOf : GoodIn wsX13_relaxing wsX13_weakestOf := goodIn_r _ [15, 16, 17, 5, 18, 19, 20, 21, 22, 23, 24, 25, 26, 27, 28, 29, 30, 31, 32, 33, 34, 35, 36, 37, 38, 39, 40, 41, 42, 43, 44, 45, 46, 47, 48, 49, 50, 51, 52, 53, 54, 55, 56, 57, 58, 59, 60, 61, 62, 63, 64, 65, 66, 67, 68, 69, 70, 71, 72, 73, 74, 75, 76, 77, 78, 79, 80] (by decide +kernel) (by decide +kernel)
set_option maxRecDepth 20000 in
theorem gX13_relaxing_X13_weakestOf : GoodIn wsX13_relaxing (wsV RX13 375 RX13 yX13_weakestOf wsX13_weakestOf) := goodIn_app (goodIn_of _ (by decide +kernel)) ggX13_relaxing_X13_weakestOf
set_option maxRecDepth 20000 in
theorem ggX13_relaxing_X13_slipped : GoodIn wsX13_relaxing wsX13_slipped := goodIn_r _ [18] (by decide +kernel) (by decide +kernel)
set_option maxRecDepth 20000 in
theorem gX13_relaxing_X13_slipped : GoodIn wsX13_relaxing (va_wsS RX13 372 yX13_slipped wsX13_slipped) := goodIn_app (goodIn_of _ (by decide +kernel)) ggX13_relaxing_X13_slipped
set_option maxRecDepth 20000 in
theorem ggX13_relaxing_X13_energyOf : GoodIn wsX13_relaxing wsX13_energyOf := goodIn_r _ [22, 23, 24, 25, 5, 26, 27, 28, 29, 30, 31, 32, 33, 34, 35, 36, 37, 38, 39, 40, 41, 42, 43, 44, 45, 46, 47, 48, 49, 50, 51, 52, 53, 54, 55, 56, 57, 58, 59, 60, 61, 62, 63, 64, 65, 66, 67, 68, 69, 70, 71, 72, 73, 74, 75, 76, 77, 78, 79, 80] (by decide +kernel) (by decide +kernel)
set_option maxRecDepth 20000 in
theorem gX13_relaxing_X13_energyOf : GoodIn wsX13_relaxing (wsV RX13 330 RX13 yX13_energyOf wsX13_energyOf) := goodIn_app (goodIn_of _ (by decide +kernel)) ggX13_relaxing_X13_energyOf
theorem dX13_relaxing_0 : decode cX13_relaxing 0 = .ok (.aload_n 0, 1) := by decide +kernel
theorem dX13_relaxing_1 : decode cX13_relaxing 1 = .ok (.iload_n 1, 1) := by decide +kernel
theorem dX13_relaxing_2 : decode cX13_relaxing 2 = .ok (.invokevirtual 310, 3) := by decide +kernel
theorem dX13_relaxing_5 : decode cX13_relaxing 5 = .ok (.istore_n 2, 1) := by decide +kernel
theorem dX13_relaxing_6 : decode cX13_relaxing 6 = .ok (.aload_n 0, 1) := by decide +kernel
theorem dX13_relaxing_7 : decode cX13_relaxing 7 = .ok (.iload_n 1, 1) := by decide +kernel
theorem dX13_relaxing_8 : decode cX13_relaxing 8 = .ok (.invokevirtual 312, 3) := by decide +kernel
theorem dX13_relaxing_11 : decode cX13_relaxing 11 = .ok (.istore_n 3, 1) := by decide +kernel
theorem dX13_relaxing_12 : decode cX13_relaxing 12 = .ok (.aload_n 0, 1) := by decide +kernel
theorem dX13_relaxing_13 : decode cX13_relaxing 13 = .ok (.iconst 0, 1) := by decide +kernel
theorem dX13_relaxing_14 : decode cX13_relaxing 14 = .ok (.putfield 381, 3) := by decide +kernel
theorem dX13_relaxing_17 : decode cX13_relaxing 17 = .ok (.iload_n 3, 1) := by decide +kernel
theorem dX13_relaxing_18 : decode cX13_relaxing 18 = .ok (.iload_n 2, 1) := by decide +kernel
theorem dX13_relaxing_19 : decode cX13_relaxing 19 = .ok (.aload_n 0, 1) := by decide +kernel
theorem dX13_relaxing_20 : decode cX13_relaxing 20 = .ok (.iload_n 3, 1) := by decide +kernel
theorem dX13_relaxing_21 : decode cX13_relaxing 21 = .ok (.iload_n 2, 1) := by decide +kernel
theorem dX13_relaxing_22 : decode cX13_relaxing 22 = .ok (.invokevirtual 375, 3) := by decide +kernel
theorem dX13_relaxing_25 : decode cX13_relaxing 25 = .ok (.invokestatic 372, 3) := by decide +kernel
theorem dX13_relaxing_28 : decode cX13_relaxing 28 = .ok (.istore 4, 2) := by decide +kernel
theorem dX13_relaxing_30 : decode cX13_relaxing 30 = .ok (.aload_n 0, 1) := by decide +kernel
theorem dX13_relaxing_31 : decode cX13_relaxing 31 = .ok (.iload 4, 2) := by decide +kernel
theorem dX13_relaxing_33 : decode cX13_relaxing 33 = .ok (.iload_n 2, 1) := by decide +kernel
theorem dX13_relaxing_34 : decode cX13_relaxing 34 = .ok (.invokevirtual 330, 3) := by decide +kernel
theorem dX13_relaxing_37 : decode cX13_relaxing 37 = .ok (.aload_n 0, 1) := by decide +kernel
theorem dX13_relaxing_38 : decode cX13_relaxing 38 = .ok (.iload_n 3, 1) := by decide +kernel
theorem dX13_relaxing_39 : decode cX13_relaxing 39 = .ok (.iload_n 2, 1) := by decide +kernel
theorem dX13_relaxing_40 : decode cX13_relaxing 40 = .ok (.invokevirtual 330, 3) := by decide +kernel
theorem dX13_relaxing_43 : decode cX13_relaxing 43 = .ok (.if_icmp .ge 32, 3) := by decide +kernel
theorem dX13_relaxing_46 : decode cX13_relaxing 46 = .ok (.iload 4, 2) := by decide +kernel
theorem dX13_relaxing_48 : decode cX13_relaxing 48 = .ok (.istore_n 3, 1) := by decide +kernel
theorem dX13_relaxing_49 : decode cX13_relaxing 49 = .ok (.aload_n 0, 1) := by decide +kernel
theorem dX13_relaxing_50 : decode cX13_relaxing 50 = .ok (.dup, 1) := by decide +kernel
theorem dX13_relaxing_51 : decode cX13_relaxing 51 = .ok (.getfield 381, 3) := by decide +kernel
theorem dX13_relaxing_54 : decode cX13_relaxing 54 = .ok (.iconst 1, 1) := by decide +kernel
theorem dX13_relaxing_55 : decode cX13_relaxing 55 = .ok (.iadd, 1) := by decide +kernel
theorem dX13_relaxing_56 : decode cX13_relaxing 56 = .ok (.putfield 381, 3) := by decide +kernel
theorem dX13_relaxing_59 : decode cX13_relaxing 59 = .ok (.iload_n 3, 1) := by decide +kernel
theorem dX13_relaxing_60 : decode cX13_relaxing 60 = .ok (.iload_n 2, 1) := by decide +kernel
theorem dX13_relaxing_61 : decode cX13_relaxing 61 = .ok (.aload_n 0, 1) := by decide +kernel
theorem dX13_relaxing_62 : decode cX13_relaxing 62 = .ok (.iload_n 3, 1) := by decide +kernel
theorem dX13_relaxing_63 : decode cX13_relaxing 63 = .ok (.iload_n 2, 1) := by decide +kernel
theorem dX13_relaxing_64 : decode cX13_relaxing 64 = .ok (.invokevirtual 375, 3) := by decide +kernel
theorem dX13_relaxing_67 : decode cX13_relaxing 67 = .ok (.invokestatic 372, 3) := by decide +kernel
theorem dX13_relaxing_70 : decode cX13_relaxing 70 = .ok (.istore 4, 2) := by decide +kernel
theorem dX13_relaxing_72 : decode cX13_relaxing 72 = .ok (.goto (-42), 3) := by decide +kernel
theorem dX13_relaxing_75 : decode cX13_relaxing 75 = .ok (.iload_n 3, 1) := by decide +kernel
theorem dX13_relaxing_76 : decode cX13_relaxing 76 = .ok (.ireturn, 1) := by decide +kernel
set_option maxRecDepth 20000 in
theorem ggX13_relax_X13_isStack : GoodIn wsX13_relax wsX13_isStack := goodIn_r _ [7, 8, 46, 47, 48, 49, 50, 51, 52, 53, 54, 55, 56, 57, 58, 59, 60, 61, 62, 63, 64, 65, 66, 67, 68, 69, 70, 71, 72, 73, 74, 75, 76, 77, 78, 79, 80, 81, 82, 83, 84, 85, 86, 87, 88, 89, 90, 91, 92, 93, 94, 95, 96, 97, 98, 99] (by decide +kernel) (by decide +kernel)
set_option maxRecDepth 20000 in
theorem gX13_relax_X13_isStack : GoodIn wsX13_relax (wsV RX13 307 RX13 yX13_isStack wsX13_isStack) := goodIn_app (goodIn_of _ (by decide +kernel)) ggX13_relax_X13_isStack
set_option maxRecDepth 20000 in
theorem ggX13_relax_X13_refused : GoodIn wsX13_relax wsX13_refused := goodIn_r _ [12, 13, 14, 46, 47, 48, 49, 50, 51, 52, 53, 54, 55, 56, 57, 58, 59, 60, 61, 62, 63, 64, 65, 66, 67, 68, 69, 70, 71, 72, 73, 74, 75, 76, 77, 78, 79, 80, 81, 82, 83] (by decide +kernel) (by decide +kernel)
set_option maxRecDepth 20000 in
theorem gX13_relax_X13_refused : GoodIn wsX13_relax (wsV RX13 55 RX13 yX13_refused wsX13_refused) := goodIn_app (goodIn_of _ (by decide +kernel)) ggX13_relax_X13_refused
set_option maxRecDepth 20000 in
theorem ggX13_relax_X13_relaxing : GoodIn wsX13_relax wsX13_relaxing := goodIn_r _ [18, 2, 19, 20, 21, 6, 22, 23, 24, 25, 26, 27, 28, 29, 30, 31, 32, 33, 34, 35, 36, 37, 38, 8, 39, 40, 41, 46, 47, 48, 49, 50, 51, 52, 53, 54, 55, 56, 57, 58, 59, 60, 61, 62, 63, 64, 65, 66, 67, 68, 69, 70, 71, 72, 73, 74, 75, 76, 77, 78, 79, 80, 81, 82, 83, 84, 85, 86, 87, 88, 89, 90, 91, 92, 93, 94, 95, 96, 97, 98, 99] (by decide +kernel) (by decide +kernel)
set_option maxRecDepth 20000 in
theorem gX13_relax_X13_relaxing : GoodIn wsX13_relax (wsV RX13 384 RX13 yX13_relaxing wsX13_relaxing) := goodIn_app (goodIn_of _ (by decide +kernel)) ggX13_relax_X13_relaxing
set_option maxRecDepth 20000 in
theorem ggX13_relax_X13_good : GoodIn wsX13_relax wsX13_good := goodIn_r _ [45, 13, 14, 46, 47, 48, 49, 50, 51, 52, 53, 54, 55, 56, 57, 58, 59, 60, 61, 62, 63, 64, 65, 66, 67, 68, 69, 70, 71, 72, 73, 74, 75, 76, 77, 78, 79, 80, 81, 82, 83] (by decide +kernel) (by decide +kernel)
set_option maxRecDepth 20000 in
theorem gX13_relax_X13_good : GoodIn wsX13_relax (wsV RX13 59 RX13 yX13_good wsX13_good) := goodIn_app (goodIn_of _ (by decide +kernel)) ggX13_relax_X13_good
theorem dX13_relax_0 : decode cX13_relax 0 = .ok (.aload_n 0, 1) := by decide +kernel
theorem dX13_relax_1 : decode cX13_relax 1 = .ok (.iconst 0, 1) := by decide +kernel
theorem dX13_relax_2 : decode cX13_relax 2 = .ok (.putfield 49, 3) := by decide +kernel
theorem dX13_relax_5 : decode cX13_relax 5 = .ok (.aload_n 0, 1) := by decide +kernel
theorem dX13_relax_6 : decode cX13_relax 6 = .ok (.iload_n 1, 1) := by decide +kernel
theorem dX13_relax_7 : decode cX13_relax 7 = .ok (.invokevirtual 307, 3) := by decide +kernel
theorem dX13_relax_10 : decode cX13_relax 10 = .ok (.ifCond .ne 9, 3) := by decide +kernel
theorem dX13_relax_13 : decode cX13_relax 13 = .ok (.aload_n 0, 1) := by decide +kernel
theorem dX13_relax_14 : decode cX13_relax 14 = .ok (.iconst 1, 1) := by decide +kernel
theorem dX13_relax_15 : decode cX13_relax 15 = .ok (.invokevirtual 55, 3) := by decide +kernel
theorem dX13_relax_18 : decode cX13_relax 18 = .ok (.ireturn, 1) := by decide +kernel
theorem dX13_relax_19 : decode cX13_relax 19 = .ok (.aload_n 0, 1) := by decide +kernel
theorem dX13_relax_20 : decode cX13_relax 20 = .ok (.iload_n 1, 1) := by decide +kernel
theorem dX13_relax_21 : decode cX13_relax 21 = .ok (.invokevirtual 384, 3) := by decide +kernel
theorem dX13_relax_24 : decode cX13_relax 24 = .ok (.pop, 1) := by decide +kernel
theorem dX13_relax_25 : decode cX13_relax 25 = .ok (.aload_n 0, 1) := by decide +kernel
theorem dX13_relax_26 : decode cX13_relax 26 = .ok (.aload_n 0, 1) := by decide +kernel
theorem dX13_relax_27 : decode cX13_relax 27 = .ok (.getfield 381, 3) := by decide +kernel
theorem dX13_relax_30 : decode cX13_relax 30 = .ok (.invokevirtual 59, 3) := by decide +kernel
theorem dX13_relax_33 : decode cX13_relax 33 = .ok (.ireturn, 1) := by decide +kernel
set_option maxRecDepth 20000 in
theorem ggX13_relaxed_X13_isStack : GoodIn wsX13_relaxed wsX13_isStack := goodIn_r _ [6, 7, 46, 47, 48, 49, 50, 51, 52, 53, 54, 55, 56, 57, 58, 59, 60, 61, 62, 63, 64, 65, 66, 67, 68, 69, 70, 71, 72, 73, 74, 75, 76, 77, 78, 79, 80, 81, 82, 83, 84, 85, 86, 87, 88, 89, 90, 91, 92, 93, 94, 95, 96, 97, 98, 99] (by decide +kernel) (by decide +kernel)
set_option maxRecDepth 20000 in
theorem gX13_relaxed_X13_isStack : GoodIn wsX13_relaxed (wsV RX13 307 RX13 yX13_isStack wsX13_isStack) := goodIn_app (goodIn_of _ (by decide +kernel)) ggX13_relaxed_X13_isStack
set_option maxRecDepth 20000 in
theorem ggX13_relaxed_X13_relaxing : GoodIn wsX13_relaxed wsX13_relaxing := goodIn_r _ [11, 12, 13, 14, 15, 5, 16, 17, 18, 19, 20, 21, 22, 23, 24, 25, 26, 27, 28, 29, 30, 31, 32, 7, 33, 34, 35, 46, 47, 48, 49, 50, 51, 52, 53, 54, 55, 56, 57, 58, 59, 60, 61, 62, 63, 64, 65, 66, 67, 68, 69, 70, 71, 72, 73, 74, 75, 76, 77, 78, 79, 80, 81, 82, 83, 84, 85, 86, 87, 88, 89, 90, 91, 92, 93, 94, 95, 96, 97, 98, 99] (by decide +kernel) (by decide +kernel)
set_option maxRecDepth 20000 in
theorem gX13_relaxed_X13_relaxing : GoodIn wsX13_relaxed (wsV RX13 384 RX13 yX13_relaxing wsX13_relaxing) := goodIn_app (goodIn_of _ (by decide +kernel)) ggX13_relaxed_X13_relaxing
set_option maxRecDepth 20000 in
theorem ggX13_relaxed_X13_good : GoodIn wsX13_relaxed wsX13_good := goodIn_r _ [39, 40, 41, 46, 47, 48, 49, 50, 51, 52, 53, 54, 55, 56, 57, 58, 59, 60, 61, 62, 63, 64, 65, 66, 67, 68, 69, 70, 71, 72, 73, 74, 75, 76, 77, 78, 79, 80, 81, 82, 83] (by decide +kernel) (by decide +kernel)
set_option maxRecDepth 20000 in
theorem gX13_relaxed_X13_good : GoodIn wsX13_relaxed (wsV RX13 59 RX13 yX13_good wsX13_good) := goodIn_app (goodIn_of _ (by decide +kernel)) ggX13_relaxed_X13_good
set_option maxRecDepth 20000 in
theorem ggX13_relaxed_X13_refused : GoodIn wsX13_relaxed wsX13_refused := goodIn_r _ [45, 40, 41, 46, 47, 48, 49, 50, 51, 52, 53, 54, 55, 56, 57, 58, 59, 60, 61, 62, 63, 64, 65, 66, 67, 68, 69, 70, 71, 72, 73, 74, 75, 76, 77, 78, 79, 80, 81, 82, 83] (by decide +kernel) (by decide +kernel)
set_option maxRecDepth 20000 in
theorem gX13_relaxed_X13_refused : GoodIn wsX13_relaxed (wsV RX13 55 RX13 yX13_refused wsX13_refused) := goodIn_app (goodIn_of _ (by decide +kernel)) ggX13_relaxed_X13_refused
theorem dX13_relaxed_0 : decode cX13_relaxed 0 = .ok (.aload_n 0, 1) := by decide +kernel
theorem dX13_relaxed_1 : decode cX13_relaxed 1 = .ok (.iconst 0, 1) := by decide +kernel
theorem dX13_relaxed_2 : decode cX13_relaxed 2 = .ok (.putfield 49, 3) := by decide +kernel
theorem dX13_relaxed_5 : decode cX13_relaxed 5 = .ok (.aload_n 0, 1) := by decide +kernel
theorem dX13_relaxed_6 : decode cX13_relaxed 6 = .ok (.iload_n 1, 1) := by decide +kernel
theorem dX13_relaxed_7 : decode cX13_relaxed 7 = .ok (.invokevirtual 307, 3) := by decide +kernel
theorem dX13_relaxed_10 : decode cX13_relaxed 10 = .ok (.ifCond .eq 15, 3) := by decide +kernel
theorem dX13_relaxed_13 : decode cX13_relaxed 13 = .ok (.aload_n 0, 1) := by decide +kernel
theorem dX13_relaxed_14 : decode cX13_relaxed 14 = .ok (.aload_n 0, 1) := by decide +kernel
theorem dX13_relaxed_15 : decode cX13_relaxed 15 = .ok (.iload_n 1, 1) := by decide +kernel
theorem dX13_relaxed_16 : decode cX13_relaxed 16 = .ok (.invokevirtual 384, 3) := by decide +kernel
theorem dX13_relaxed_19 : decode cX13_relaxed 19 = .ok (.invokevirtual 59, 3) := by decide +kernel
theorem dX13_relaxed_22 : decode cX13_relaxed 22 = .ok (.goto 8, 3) := by decide +kernel
theorem dX13_relaxed_25 : decode cX13_relaxed 25 = .ok (.aload_n 0, 1) := by decide +kernel
theorem dX13_relaxed_26 : decode cX13_relaxed 26 = .ok (.iconst 1, 1) := by decide +kernel
theorem dX13_relaxed_27 : decode cX13_relaxed 27 = .ok (.invokevirtual 55, 3) := by decide +kernel
theorem dX13_relaxed_30 : decode cX13_relaxed 30 = .ok (.ireturn, 1) := by decide +kernel
set_option maxRecDepth 20000 in
theorem ggX13_laysEnergies_X13_all : GoodIn wsX13_laysEnergies wsX13_all := goodIn_r _ [5] (by decide +kernel) (by decide +kernel)
set_option maxRecDepth 20000 in
theorem gX13_laysEnergies_X13_all : GoodIn wsX13_laysEnergies (va_wsS RX13 285 yX13_all wsX13_all) := goodIn_app (goodIn_of _ (by decide +kernel)) ggX13_laysEnergies_X13_all
set_option maxRecDepth 20000 in
theorem ggX13_laysEnergies_X13_energyOf : GoodIn wsX13_laysEnergies wsX13_energyOf := goodIn_r _ [9, 10, 11, 12, 4, 13, 14, 15, 16, 17, 18, 19, 20, 21, 22, 23, 24, 25, 26, 27, 28, 29, 30, 31, 32, 33, 34, 35, 36, 37, 38, 39, 40, 41, 42, 43, 44, 45, 46, 47, 48, 49, 50, 51, 52, 53, 54, 55, 56, 57, 58, 59, 60, 61, 62, 63, 64, 65, 66, 67] (by decide +kernel) (by decide +kernel)
set_option maxRecDepth 20000 in
theorem gX13_laysEnergies_X13_energyOf : GoodIn wsX13_laysEnergies (wsV RX13 330 RX13 yX13_energyOf wsX13_energyOf) := goodIn_app (goodIn_of _ (by decide +kernel)) ggX13_laysEnergies_X13_energyOf
theorem dX13_laysEnergies_0 : decode cX13_laysEnergies 0 = .ok (.iconst 0, 1) := by decide +kernel
theorem dX13_laysEnergies_1 : decode cX13_laysEnergies 1 = .ok (.istore_n 2, 1) := by decide +kernel
theorem dX13_laysEnergies_2 : decode cX13_laysEnergies 2 = .ok (.iload_n 2, 1) := by decide +kernel
theorem dX13_laysEnergies_3 : decode cX13_laysEnergies 3 = .ok (.iload_n 1, 1) := by decide +kernel
theorem dX13_laysEnergies_4 : decode cX13_laysEnergies 4 = .ok (.invokestatic 285, 3) := by decide +kernel
theorem dX13_laysEnergies_7 : decode cX13_laysEnergies 7 = .ok (.if_icmp .gt 21, 3) := by decide +kernel
theorem dX13_laysEnergies_10 : decode cX13_laysEnergies 10 = .ok (.aload_n 0, 1) := by decide +kernel
theorem dX13_laysEnergies_11 : decode cX13_laysEnergies 11 = .ok (.getfield 39, 3) := by decide +kernel
theorem dX13_laysEnergies_14 : decode cX13_laysEnergies 14 = .ok (.iload_n 2, 1) := by decide +kernel
theorem dX13_laysEnergies_15 : decode cX13_laysEnergies 15 = .ok (.aload_n 0, 1) := by decide +kernel
theorem dX13_laysEnergies_16 : decode cX13_laysEnergies 16 = .ok (.iload_n 2, 1) := by decide +kernel
theorem dX13_laysEnergies_17 : decode cX13_laysEnergies 17 = .ok (.iload_n 1, 1) := by decide +kernel
theorem dX13_laysEnergies_18 : decode cX13_laysEnergies 18 = .ok (.invokevirtual 330, 3) := by decide +kernel
theorem dX13_laysEnergies_21 : decode cX13_laysEnergies 21 = .ok (.iastore, 1) := by decide +kernel
theorem dX13_laysEnergies_22 : decode cX13_laysEnergies 22 = .ok (.iinc 2 1, 3) := by decide +kernel
theorem dX13_laysEnergies_25 : decode cX13_laysEnergies 25 = .ok (.goto (-23), 3) := by decide +kernel
theorem dX13_laysEnergies_28 : decode cX13_laysEnergies 28 = .ok (.return_, 1) := by decide +kernel
set_option maxRecDepth 20000 in
theorem ggX13_floods_X13_all : GoodIn wsX13_floods wsX13_all := goodIn_r _ [7] (by decide +kernel) (by decide +kernel)
set_option maxRecDepth 20000 in
theorem gX13_floods_X13_all : GoodIn wsX13_floods (va_wsS RX13 285 yX13_all wsX13_all) := goodIn_app (goodIn_of _ (by decide +kernel)) ggX13_floods_X13_all
set_option maxRecDepth 20000 in
theorem ggX13_floods_X13_slipped : GoodIn wsX13_floods wsX13_slipped := goodIn_r _ [10] (by decide +kernel) (by decide +kernel)
set_option maxRecDepth 20000 in
theorem gX13_floods_X13_slipped : GoodIn wsX13_floods (va_wsS RX13 372 yX13_slipped wsX13_slipped) := goodIn_app (goodIn_of _ (by decide +kernel)) ggX13_floods_X13_slipped
theorem dX13_floods_0 : decode cX13_floods 0 = .ok (.iconst 0, 1) := by decide +kernel
theorem dX13_floods_1 : decode cX13_floods 1 = .ok (.istore 4, 2) := by decide +kernel
theorem dX13_floods_3 : decode cX13_floods 3 = .ok (.iload 4, 2) := by decide +kernel
theorem dX13_floods_5 : decode cX13_floods 5 = .ok (.iload_n 2, 1) := by decide +kernel
theorem dX13_floods_6 : decode cX13_floods 6 = .ok (.invokestatic 285, 3) := by decide +kernel
theorem dX13_floods_9 : decode cX13_floods 9 = .ok (.if_icmp .gt 17, 3) := by decide +kernel
theorem dX13_floods_12 : decode cX13_floods 12 = .ok (.aload_n 0, 1) := by decide +kernel
theorem dX13_floods_13 : decode cX13_floods 13 = .ok (.getfield 42, 3) := by decide +kernel
theorem dX13_floods_16 : decode cX13_floods 16 = .ok (.iload 4, 2) := by decide +kernel
theorem dX13_floods_18 : decode cX13_floods 18 = .ok (.iconst 0, 1) := by decide +kernel
theorem dX13_floods_19 : decode cX13_floods 19 = .ok (.bastore, 1) := by decide +kernel
theorem dX13_floods_20 : decode cX13_floods 20 = .ok (.iinc 4 1, 3) := by decide +kernel
theorem dX13_floods_23 : decode cX13_floods 23 = .ok (.goto (-20), 3) := by decide +kernel
theorem dX13_floods_26 : decode cX13_floods 26 = .ok (.iconst 1, 1) := by decide +kernel
theorem dX13_floods_27 : decode cX13_floods 27 = .ok (.istore 4, 2) := by decide +kernel
theorem dX13_floods_29 : decode cX13_floods 29 = .ok (.aload_n 0, 1) := by decide +kernel
theorem dX13_floods_30 : decode cX13_floods 30 = .ok (.getfield 36, 3) := by decide +kernel
theorem dX13_floods_33 : decode cX13_floods 33 = .ok (.iconst 0, 1) := by decide +kernel
theorem dX13_floods_34 : decode cX13_floods 34 = .ok (.iload_n 1, 1) := by decide +kernel
theorem dX13_floods_35 : decode cX13_floods 35 = .ok (.iastore, 1) := by decide +kernel
theorem dX13_floods_36 : decode cX13_floods 36 = .ok (.aload_n 0, 1) := by decide +kernel
theorem dX13_floods_37 : decode cX13_floods 37 = .ok (.getfield 42, 3) := by decide +kernel
theorem dX13_floods_40 : decode cX13_floods 40 = .ok (.iload_n 1, 1) := by decide +kernel
theorem dX13_floods_41 : decode cX13_floods 41 = .ok (.iconst 1, 1) := by decide +kernel
theorem dX13_floods_42 : decode cX13_floods 42 = .ok (.bastore, 1) := by decide +kernel
theorem dX13_floods_43 : decode cX13_floods 43 = .ok (.iconst 0, 1) := by decide +kernel
theorem dX13_floods_44 : decode cX13_floods 44 = .ok (.istore 5, 2) := by decide +kernel
theorem dX13_floods_46 : decode cX13_floods 46 = .ok (.iload 5, 2) := by decide +kernel
theorem dX13_floods_48 : decode cX13_floods 48 = .ok (.iload 4, 2) := by decide +kernel
theorem dX13_floods_50 : decode cX13_floods 50 = .ok (.if_icmp .ge 83, 3) := by decide +kernel
theorem dX13_floods_53 : decode cX13_floods 53 = .ok (.iconst 0, 1) := by decide +kernel
theorem dX13_floods_54 : decode cX13_floods 54 = .ok (.istore 6, 2) := by decide +kernel
theorem dX13_floods_56 : decode cX13_floods 56 = .ok (.iload 6, 2) := by decide +kernel
theorem dX13_floods_58 : decode cX13_floods 58 = .ok (.iload_n 2, 1) := by decide +kernel
theorem dX13_floods_59 : decode cX13_floods 59 = .ok (.if_icmp .ge 68, 3) := by decide +kernel
theorem dX13_floods_62 : decode cX13_floods 62 = .ok (.aload_n 0, 1) := by decide +kernel
theorem dX13_floods_63 : decode cX13_floods 63 = .ok (.getfield 36, 3) := by decide +kernel
theorem dX13_floods_66 : decode cX13_floods 66 = .ok (.iload 5, 2) := by decide +kernel
theorem dX13_floods_68 : decode cX13_floods 68 = .ok (.iaload, 1) := by decide +kernel
theorem dX13_floods_69 : decode cX13_floods 69 = .ok (.iload_n 2, 1) := by decide +kernel
theorem dX13_floods_70 : decode cX13_floods 70 = .ok (.iload 6, 2) := by decide +kernel
theorem dX13_floods_72 : decode cX13_floods 72 = .ok (.invokestatic 372, 3) := by decide +kernel
theorem dX13_floods_75 : decode cX13_floods 75 = .ok (.istore 7, 2) := by decide +kernel
theorem dX13_floods_77 : decode cX13_floods 77 = .ok (.aload_n 0, 1) := by decide +kernel
theorem dX13_floods_78 : decode cX13_floods 78 = .ok (.getfield 42, 3) := by decide +kernel
theorem dX13_floods_81 : decode cX13_floods 81 = .ok (.iload 7, 2) := by decide +kernel
theorem dX13_floods_83 : decode cX13_floods 83 = .ok (.baload, 1) := by decide +kernel
theorem dX13_floods_84 : decode cX13_floods 84 = .ok (.ifCond .ne 37, 3) := by decide +kernel
theorem dX13_floods_87 : decode cX13_floods 87 = .ok (.aload_n 0, 1) := by decide +kernel
theorem dX13_floods_88 : decode cX13_floods 88 = .ok (.getfield 39, 3) := by decide +kernel
theorem dX13_floods_91 : decode cX13_floods 91 = .ok (.iload 7, 2) := by decide +kernel
theorem dX13_floods_93 : decode cX13_floods 93 = .ok (.iaload, 1) := by decide +kernel
theorem dX13_floods_94 : decode cX13_floods 94 = .ok (.iload_n 3, 1) := by decide +kernel
theorem dX13_floods_95 : decode cX13_floods 95 = .ok (.if_icmp .le 6, 3) := by decide +kernel
theorem dX13_floods_98 : decode cX13_floods 98 = .ok (.goto 23, 3) := by decide +kernel
theorem dX13_floods_101 : decode cX13_floods 101 = .ok (.aload_n 0, 1) := by decide +kernel
theorem dX13_floods_102 : decode cX13_floods 102 = .ok (.getfield 42, 3) := by decide +kernel
theorem dX13_floods_105 : decode cX13_floods 105 = .ok (.iload 7, 2) := by decide +kernel
theorem dX13_floods_107 : decode cX13_floods 107 = .ok (.iconst 1, 1) := by decide +kernel
theorem dX13_floods_108 : decode cX13_floods 108 = .ok (.bastore, 1) := by decide +kernel
theorem dX13_floods_109 : decode cX13_floods 109 = .ok (.aload_n 0, 1) := by decide +kernel
theorem dX13_floods_110 : decode cX13_floods 110 = .ok (.getfield 36, 3) := by decide +kernel
theorem dX13_floods_113 : decode cX13_floods 113 = .ok (.iload 4, 2) := by decide +kernel
theorem dX13_floods_115 : decode cX13_floods 115 = .ok (.iload 7, 2) := by decide +kernel
theorem dX13_floods_117 : decode cX13_floods 117 = .ok (.iastore, 1) := by decide +kernel
theorem dX13_floods_118 : decode cX13_floods 118 = .ok (.iinc 4 1, 3) := by decide +kernel
theorem dX13_floods_121 : decode cX13_floods 121 = .ok (.iinc 6 1, 3) := by decide +kernel
theorem dX13_floods_124 : decode cX13_floods 124 = .ok (.goto (-68), 3) := by decide +kernel
theorem dX13_floods_127 : decode cX13_floods 127 = .ok (.iinc 5 1, 3) := by decide +kernel
theorem dX13_floods_130 : decode cX13_floods 130 = .ok (.goto (-84), 3) := by decide +kernel
theorem dX13_floods_133 : decode cX13_floods 133 = .ok (.iload 4, 2) := by decide +kernel
theorem dX13_floods_135 : decode cX13_floods 135 = .ok (.ireturn, 1) := by decide +kernel
set_option maxRecDepth 20000 in
theorem ggX13_pass_X13_isStack : GoodIn wsX13_pass wsX13_isStack := goodIn_r _ [10, 11, 57, 58, 59, 60, 61, 62, 63, 64, 65, 66, 67, 68, 69, 70, 71, 72, 73, 74, 75, 76, 77, 78, 79, 80, 81, 82, 83, 84, 85, 86, 87, 88, 89, 90, 91, 92, 93, 94, 95, 96, 97, 98, 99, 100, 101, 102, 103, 104, 105, 106, 107, 108, 109, 110] (by decide +kernel) (by decide +kernel)
set_option maxRecDepth 20000 in
theorem gX13_pass_X13_isStack : GoodIn wsX13_pass (wsV RX13 307 RX13 yX13_isStack wsX13_isStack) := goodIn_app (goodIn_of _ (by decide +kernel)) ggX13_pass_X13_isStack
set_option maxRecDepth 20000 in
theorem ggX13_pass_X13_lost : GoodIn wsX13_pass wsX13_lost := goodIn_r _ [15, 16, 17, 18, 9, 19, 20, 21, 57, 58, 59, 60, 61, 62, 63, 64, 65, 66, 67, 68, 69, 70, 71, 72, 73, 74, 75, 76, 77, 78, 79, 80, 81, 82, 83, 84, 85, 86, 87, 88, 89, 90, 91, 92, 93, 94] (by decide +kernel) (by decide +kernel)
set_option maxRecDepth 20000 in
theorem gX13_pass_X13_lost : GoodIn wsX13_pass (wsV RX13 320 RX13 yX13_lost wsX13_lost) := goodIn_app (goodIn_of _ (by decide +kernel)) ggX13_pass_X13_lost
set_option maxRecDepth 20000 in
theorem ggX13_pass_X13_steps : GoodIn wsX13_pass wsX13_steps := goodIn_r _ [25, 26, 57, 58, 59, 60, 61, 62, 63, 64, 65, 66, 67, 68, 69, 70, 71, 72, 73, 74, 75, 76, 77, 78, 79, 80, 81, 82, 83, 84, 85, 86, 87, 88, 89, 90, 91, 92, 93, 94] (by decide +kernel) (by decide +kernel)
set_option maxRecDepth 20000 in
theorem gX13_pass_X13_steps : GoodIn wsX13_pass (wsV RX13 310 RX13 yX13_steps wsX13_steps) := goodIn_app (goodIn_of _ (by decide +kernel)) ggX13_pass_X13_steps
set_option maxRecDepth 20000 in
theorem ggX13_pass_X13_laysEnergies : GoodIn wsX13_pass wsX13_laysEnergies := goodIn_r _ [30, 3, 31, 32, 9, 33, 34, 35, 36, 37, 11, 38, 39, 40, 57, 58, 59, 60, 61, 62, 63, 64, 65, 66, 67, 68, 69, 70, 71, 72, 73, 74, 75, 76, 77, 78, 79, 80, 81, 82, 83, 84, 85, 86, 87, 88, 89, 90, 91, 92, 93, 94, 95, 96, 97, 98, 99, 100, 101, 102, 103, 104, 105, 106, 107, 108, 109, 110] (by decide +kernel) (by decide +kernel)
set_option maxRecDepth 20000 in
theorem gX13_pass_X13_laysEnergies : GoodIn wsX13_pass (wsV RX13 387 RX13 yX13_laysEnergies wsX13_laysEnergies) := goodIn_app (goodIn_of _ (by decide +kernel)) ggX13_pass_X13_laysEnergies
set_option maxRecDepth 20000 in
theorem ggX13_pass_X13_row : GoodIn wsX13_pass wsX13_row := goodIn_r _ [44, 26, 57, 58, 59, 60, 61, 62, 63, 64, 65, 66, 67, 68, 69, 70, 71, 72, 73, 74, 75, 76, 77, 78, 79, 80, 81, 82, 83, 84, 85, 86, 87, 88, 89, 90, 91, 92, 93, 94] (by decide +kernel) (by decide +kernel)
set_option maxRecDepth 20000 in
theorem gX13_pass_X13_row : GoodIn wsX13_pass (wsV RX13 312 RX13 yX13_row wsX13_row) := goodIn_app (goodIn_of _ (by decide +kernel)) ggX13_pass_X13_row
set_option maxRecDepth 20000 in
theorem ggX13_pass_X13_floods : GoodIn wsX13_pass wsX13_floods := goodIn_r _ [48, 5, 49, 3, 31, 32, 9, 33, 50, 51, 52, 57, 58, 59, 60, 61, 62, 63, 64, 65, 66, 67, 68, 69, 70, 71, 72, 73, 74, 75, 76, 77, 78, 79, 80, 81, 82, 83, 84, 85, 86, 87, 88, 89, 90, 91, 92, 93, 94] (by decide +kernel) (by decide +kernel)
set_option maxRecDepth 20000 in
theorem gX13_pass_X13_floods : GoodIn wsX13_pass (wsV RX13 390 RX13 yX13_floods wsX13_floods) := goodIn_app (goodIn_of _ (by decide +kernel)) ggX13_pass_X13_floods
set_option maxRecDepth 20000 in
theorem ggX13_pass_X13_good : GoodIn wsX13_pass wsX13_good := goodIn_r _ [56, 20, 21, 57, 58, 59, 60, 61, 62, 63, 64, 65, 66, 67, 68, 69, 70, 71, 72, 73, 74, 75, 76, 77, 78, 79, 80, 81, 82, 83, 84, 85, 86, 87, 88, 89, 90, 91, 92, 93, 94] (by decide +kernel) (by decide +kernel)
set_option maxRecDepth 20000 in
theorem gX13_pass_X13_good : GoodIn wsX13_pass (wsV RX13 59 RX13 yX13_good wsX13_good) := goodIn_app (goodIn_of _ (by decide +kernel)) ggX13_pass_X13_good
theorem dX13_pass_0 : decode cX13_pass 0 = .ok (.aload_n 0, 1) := by decide +kernel
theorem dX13_pass_1 : decode cX13_pass 1 = .ok (.iconst 0, 1) := by decide +kernel
theorem dX13_pass_2 : decode cX13_pass 2 = .ok (.putfield 49, 3) := by decide +kernel
theorem dX13_pass_5 : decode cX13_pass 5 = .ok (.aload_n 0, 1) := by decide +kernel
theorem dX13_pass_6 : decode cX13_pass 6 = .ok (.iload_n 1, 1) := by decide +kernel
theorem dX13_pass_7 : decode cX13_pass 7 = .ok (.invokevirtual 307, 3) := by decide +kernel
theorem dX13_pass_10 : decode cX13_pass 10 = .ok (.ifCond .eq 11, 3) := by decide +kernel
theorem dX13_pass_13 : decode cX13_pass 13 = .ok (.aload_n 0, 1) := by decide +kernel
theorem dX13_pass_14 : decode cX13_pass 14 = .ok (.iload_n 2, 1) := by decide +kernel
theorem dX13_pass_15 : decode cX13_pass 15 = .ok (.invokevirtual 307, 3) := by decide +kernel
theorem dX13_pass_18 : decode cX13_pass 18 = .ok (.ifCond .ne 12, 3) := by decide +kernel
theorem dX13_pass_21 : decode cX13_pass 21 = .ok (.aload_n 0, 1) := by decide +kernel
theorem dX13_pass_22 : decode cX13_pass 22 = .ok (.iconst 1, 1) := by decide +kernel
theorem dX13_pass_23 : decode cX13_pass 23 = .ok (.ldc_w 333, 3) := by decide +kernel
theorem dX13_pass_26 : decode cX13_pass 26 = .ok (.invokevirtual 320, 3) := by decide +kernel
theorem dX13_pass_29 : decode cX13_pass 29 = .ok (.ireturn, 1) := by decide +kernel
theorem dX13_pass_30 : decode cX13_pass 30 = .ok (.aload_n 0, 1) := by decide +kernel
theorem dX13_pass_31 : decode cX13_pass 31 = .ok (.iload_n 1, 1) := by decide +kernel
theorem dX13_pass_32 : decode cX13_pass 32 = .ok (.invokevirtual 310, 3) := by decide +kernel
theorem dX13_pass_35 : decode cX13_pass 35 = .ok (.aload_n 0, 1) := by decide +kernel
theorem dX13_pass_36 : decode cX13_pass 36 = .ok (.iload_n 2, 1) := by decide +kernel
theorem dX13_pass_37 : decode cX13_pass 37 = .ok (.invokevirtual 310, 3) := by decide +kernel
theorem dX13_pass_40 : decode cX13_pass 40 = .ok (.if_icmp .eq 12, 3) := by decide +kernel
theorem dX13_pass_43 : decode cX13_pass 43 = .ok (.aload_n 0, 1) := by decide +kernel
theorem dX13_pass_44 : decode cX13_pass 44 = .ok (.iconst 5, 1) := by decide +kernel
theorem dX13_pass_45 : decode cX13_pass 45 = .ok (.ldc_w 333, 3) := by decide +kernel
theorem dX13_pass_48 : decode cX13_pass 48 = .ok (.invokevirtual 320, 3) := by decide +kernel
theorem dX13_pass_51 : decode cX13_pass 51 = .ok (.ireturn, 1) := by decide +kernel
theorem dX13_pass_52 : decode cX13_pass 52 = .ok (.aload_n 0, 1) := by decide +kernel
theorem dX13_pass_53 : decode cX13_pass 53 = .ok (.iload_n 1, 1) := by decide +kernel
theorem dX13_pass_54 : decode cX13_pass 54 = .ok (.invokevirtual 310, 3) := by decide +kernel
theorem dX13_pass_57 : decode cX13_pass 57 = .ok (.istore_n 3, 1) := by decide +kernel
theorem dX13_pass_58 : decode cX13_pass 58 = .ok (.aload_n 0, 1) := by decide +kernel
theorem dX13_pass_59 : decode cX13_pass 59 = .ok (.iload_n 3, 1) := by decide +kernel
theorem dX13_pass_60 : decode cX13_pass 60 = .ok (.invokevirtual 387, 3) := by decide +kernel
theorem dX13_pass_63 : decode cX13_pass 63 = .ok (.aload_n 0, 1) := by decide +kernel
theorem dX13_pass_64 : decode cX13_pass 64 = .ok (.getfield 39, 3) := by decide +kernel
theorem dX13_pass_67 : decode cX13_pass 67 = .ok (.aload_n 0, 1) := by decide +kernel
theorem dX13_pass_68 : decode cX13_pass 68 = .ok (.iload_n 1, 1) := by decide +kernel
theorem dX13_pass_69 : decode cX13_pass 69 = .ok (.invokevirtual 312, 3) := by decide +kernel
theorem dX13_pass_72 : decode cX13_pass 72 = .ok (.iaload, 1) := by decide +kernel
theorem dX13_pass_73 : decode cX13_pass 73 = .ok (.aload_n 0, 1) := by decide +kernel
theorem dX13_pass_74 : decode cX13_pass 74 = .ok (.getfield 39, 3) := by decide +kernel
theorem dX13_pass_77 : decode cX13_pass 77 = .ok (.aload_n 0, 1) := by decide +kernel
theorem dX13_pass_78 : decode cX13_pass 78 = .ok (.iload_n 2, 1) := by decide +kernel
theorem dX13_pass_79 : decode cX13_pass 79 = .ok (.invokevirtual 312, 3) := by decide +kernel
theorem dX13_pass_82 : decode cX13_pass 82 = .ok (.iaload, 1) := by decide +kernel
theorem dX13_pass_83 : decode cX13_pass 83 = .ok (.if_icmp .le 16, 3) := by decide +kernel
theorem dX13_pass_86 : decode cX13_pass 86 = .ok (.aload_n 0, 1) := by decide +kernel
theorem dX13_pass_87 : decode cX13_pass 87 = .ok (.getfield 39, 3) := by decide +kernel
theorem dX13_pass_90 : decode cX13_pass 90 = .ok (.aload_n 0, 1) := by decide +kernel
theorem dX13_pass_91 : decode cX13_pass 91 = .ok (.iload_n 1, 1) := by decide +kernel
theorem dX13_pass_92 : decode cX13_pass 92 = .ok (.invokevirtual 312, 3) := by decide +kernel
theorem dX13_pass_95 : decode cX13_pass 95 = .ok (.iaload, 1) := by decide +kernel
theorem dX13_pass_96 : decode cX13_pass 96 = .ok (.goto 13, 3) := by decide +kernel
theorem dX13_pass_99 : decode cX13_pass 99 = .ok (.aload_n 0, 1) := by decide +kernel
theorem dX13_pass_100 : decode cX13_pass 100 = .ok (.getfield 39, 3) := by decide +kernel
theorem dX13_pass_103 : decode cX13_pass 103 = .ok (.aload_n 0, 1) := by decide +kernel
theorem dX13_pass_104 : decode cX13_pass 104 = .ok (.iload_n 2, 1) := by decide +kernel
theorem dX13_pass_105 : decode cX13_pass 105 = .ok (.invokevirtual 312, 3) := by decide +kernel
theorem dX13_pass_108 : decode cX13_pass 108 = .ok (.iaload, 1) := by decide +kernel
theorem dX13_pass_109 : decode cX13_pass 109 = .ok (.istore 4, 2) := by decide +kernel
theorem dX13_pass_111 : decode cX13_pass 111 = .ok (.ldc_w 344, 3) := by decide +kernel
theorem dX13_pass_114 : decode cX13_pass 114 = .ok (.istore 5, 2) := by decide +kernel
theorem dX13_pass_116 : decode cX13_pass 116 = .ok (.iload 4, 2) := by decide +kernel
theorem dX13_pass_118 : decode cX13_pass 118 = .ok (.iload 5, 2) := by decide +kernel
theorem dX13_pass_120 : decode cX13_pass 120 = .ok (.if_icmp .ge 57, 3) := by decide +kernel
theorem dX13_pass_123 : decode cX13_pass 123 = .ok (.iload 4, 2) := by decide +kernel
theorem dX13_pass_125 : decode cX13_pass 125 = .ok (.iload 5, 2) := by decide +kernel
theorem dX13_pass_127 : decode cX13_pass 127 = .ok (.iload 4, 2) := by decide +kernel
theorem dX13_pass_129 : decode cX13_pass 129 = .ok (.isub, 1) := by decide +kernel
theorem dX13_pass_130 : decode cX13_pass 130 = .ok (.iconst 2, 1) := by decide +kernel
theorem dX13_pass_131 : decode cX13_pass 131 = .ok (.idiv, 1) := by decide +kernel
theorem dX13_pass_132 : decode cX13_pass 132 = .ok (.iadd, 1) := by decide +kernel
theorem dX13_pass_133 : decode cX13_pass 133 = .ok (.istore 6, 2) := by decide +kernel
theorem dX13_pass_135 : decode cX13_pass 135 = .ok (.aload_n 0, 1) := by decide +kernel
theorem dX13_pass_136 : decode cX13_pass 136 = .ok (.aload_n 0, 1) := by decide +kernel
theorem dX13_pass_137 : decode cX13_pass 137 = .ok (.iload_n 1, 1) := by decide +kernel
theorem dX13_pass_138 : decode cX13_pass 138 = .ok (.invokevirtual 312, 3) := by decide +kernel
theorem dX13_pass_141 : decode cX13_pass 141 = .ok (.iload_n 3, 1) := by decide +kernel
theorem dX13_pass_142 : decode cX13_pass 142 = .ok (.iload 6, 2) := by decide +kernel
theorem dX13_pass_144 : decode cX13_pass 144 = .ok (.invokevirtual 390, 3) := by decide +kernel
theorem dX13_pass_147 : decode cX13_pass 147 = .ok (.pop, 1) := by decide +kernel
theorem dX13_pass_148 : decode cX13_pass 148 = .ok (.aload_n 0, 1) := by decide +kernel
theorem dX13_pass_149 : decode cX13_pass 149 = .ok (.getfield 42, 3) := by decide +kernel
theorem dX13_pass_152 : decode cX13_pass 152 = .ok (.aload_n 0, 1) := by decide +kernel
theorem dX13_pass_153 : decode cX13_pass 153 = .ok (.iload_n 2, 1) := by decide +kernel
theorem dX13_pass_154 : decode cX13_pass 154 = .ok (.invokevirtual 312, 3) := by decide +kernel
theorem dX13_pass_157 : decode cX13_pass 157 = .ok (.baload, 1) := by decide +kernel
theorem dX13_pass_158 : decode cX13_pass 158 = .ok (.ifCond .eq 10, 3) := by decide +kernel
theorem dX13_pass_161 : decode cX13_pass 161 = .ok (.iload 6, 2) := by decide +kernel
theorem dX13_pass_163 : decode cX13_pass 163 = .ok (.istore 5, 2) := by decide +kernel
theorem dX13_pass_165 : decode cX13_pass 165 = .ok (.goto 9, 3) := by decide +kernel
theorem dX13_pass_168 : decode cX13_pass 168 = .ok (.iload 6, 2) := by decide +kernel
theorem dX13_pass_170 : decode cX13_pass 170 = .ok (.iconst 1, 1) := by decide +kernel
theorem dX13_pass_171 : decode cX13_pass 171 = .ok (.iadd, 1) := by decide +kernel
theorem dX13_pass_172 : decode cX13_pass 172 = .ok (.istore 4, 2) := by decide +kernel
theorem dX13_pass_174 : decode cX13_pass 174 = .ok (.goto (-58), 3) := by decide +kernel
theorem dX13_pass_177 : decode cX13_pass 177 = .ok (.aload_n 0, 1) := by decide +kernel
theorem dX13_pass_178 : decode cX13_pass 178 = .ok (.iload 4, 2) := by decide +kernel
theorem dX13_pass_180 : decode cX13_pass 180 = .ok (.invokevirtual 59, 3) := by decide +kernel
theorem dX13_pass_183 : decode cX13_pass 183 = .ok (.ireturn, 1) := by decide +kernel
set_option maxRecDepth 20000 in
theorem ggX13_valley_X13_isStack : GoodIn wsX13_valley wsX13_isStack := goodIn_r _ [7, 8, 51, 52, 53, 54, 55, 56, 57, 58, 59, 60, 61, 62, 63, 64, 65, 66, 67, 68, 69, 70, 71, 72, 73, 74, 75, 76, 77, 78, 79, 80, 81, 82, 83, 84, 85, 86, 87, 88, 89, 90, 91, 92, 93, 94, 95, 96, 97, 98, 99, 100, 101, 102, 103, 104] (by decide +kernel) (by decide +kernel)
set_option maxRecDepth 20000 in
theorem gX13_valley_X13_isStack : GoodIn wsX13_valley (wsV RX13 307 RX13 yX13_isStack wsX13_isStack) := goodIn_app (goodIn_of _ (by decide +kernel)) ggX13_valley_X13_isStack
set_option maxRecDepth 20000 in
theorem ggX13_valley_X13_refused : GoodIn wsX13_valley wsX13_refused := goodIn_r _ [12, 13, 14, 51, 52, 53, 54, 55, 56, 57, 58, 59, 60, 61, 62, 63, 64, 65, 66, 67, 68, 69, 70, 71, 72, 73, 74, 75, 76, 77, 78, 79, 80, 81, 82, 83, 84, 85, 86, 87, 88] (by decide +kernel) (by decide +kernel)
set_option maxRecDepth 20000 in
theorem gX13_valley_X13_refused : GoodIn wsX13_valley (wsV RX13 55 RX13 yX13_refused wsX13_refused) := goodIn_app (goodIn_of _ (by decide +kernel)) ggX13_valley_X13_refused
set_option maxRecDepth 20000 in
theorem ggX13_valley_X13_steps : GoodIn wsX13_valley wsX13_steps := goodIn_r _ [18, 19, 51, 52, 53, 54, 55, 56, 57, 58, 59, 60, 61, 62, 63, 64, 65, 66, 67, 68, 69, 70, 71, 72, 73, 74, 75, 76, 77, 78, 79, 80, 81, 82, 83, 84, 85, 86, 87, 88] (by decide +kernel) (by decide +kernel)
set_option maxRecDepth 20000 in
theorem gX13_valley_X13_steps : GoodIn wsX13_valley (wsV RX13 310 RX13 yX13_steps wsX13_steps) := goodIn_app (goodIn_of _ (by decide +kernel)) ggX13_valley_X13_steps
set_option maxRecDepth 20000 in
theorem ggX13_valley_X13_laysEnergies : GoodIn wsX13_valley wsX13_laysEnergies := goodIn_r _ [23, 2, 24, 25, 6, 26, 27, 28, 29, 30, 8, 31, 32, 33, 51, 52, 53, 54, 55, 56, 57, 58, 59, 60, 61, 62, 63, 64, 65, 66, 67, 68, 69, 70, 71, 72, 73, 74, 75, 76, 77, 78, 79, 80, 81, 82, 83, 84, 85, 86, 87, 88, 89, 90, 91, 92, 93, 94, 95, 96, 97, 98, 99, 100, 101, 102, 103, 104] (by decide +kernel) (by decide +kernel)
set_option maxRecDepth 20000 in
theorem gX13_valley_X13_laysEnergies : GoodIn wsX13_valley (wsV RX13 387 RX13 yX13_laysEnergies wsX13_laysEnergies) := goodIn_app (goodIn_of _ (by decide +kernel)) ggX13_valley_X13_laysEnergies
set_option maxRecDepth 20000 in
theorem ggX13_valley_X13_row : GoodIn wsX13_valley wsX13_row := goodIn_r _ [37, 19, 51, 52, 53, 54, 55, 56, 57, 58, 59, 60, 61, 62, 63, 64, 65, 66, 67, 68, 69, 70, 71, 72, 73, 74, 75, 76, 77, 78, 79, 80, 81, 82, 83, 84, 85, 86, 87, 88] (by decide +kernel) (by decide +kernel)
set_option maxRecDepth 20000 in
theorem gX13_valley_X13_row : GoodIn wsX13_valley (wsV RX13 312 RX13 yX13_row wsX13_row) := goodIn_app (goodIn_of _ (by decide +kernel)) ggX13_valley_X13_row
set_option maxRecDepth 20000 in
theorem ggX13_valley_X13_floods : GoodIn wsX13_valley wsX13_floods := goodIn_r _ [41, 42, 43, 2, 24, 25, 6, 26, 44, 45, 46, 51, 52, 53, 54, 55, 56, 57, 58, 59, 60, 61, 62, 63, 64, 65, 66, 67, 68, 69, 70, 71, 72, 73, 74, 75, 76, 77, 78, 79, 80, 81, 82, 83, 84, 85, 86, 87, 88] (by decide +kernel) (by decide +kernel)
set_option maxRecDepth 20000 in
theorem gX13_valley_X13_floods : GoodIn wsX13_valley (wsV RX13 390 RX13 yX13_floods wsX13_floods) := goodIn_app (goodIn_of _ (by decide +kernel)) ggX13_valley_X13_floods
set_option maxRecDepth 20000 in
theorem ggX13_valley_X13_good : GoodIn wsX13_valley wsX13_good := goodIn_r _ [50, 13, 14, 51, 52, 53, 54, 55, 56, 57, 58, 59, 60, 61, 62, 63, 64, 65, 66, 67, 68, 69, 70, 71, 72, 73, 74, 75, 76, 77, 78, 79, 80, 81, 82, 83, 84, 85, 86, 87, 88] (by decide +kernel) (by decide +kernel)
set_option maxRecDepth 20000 in
theorem gX13_valley_X13_good : GoodIn wsX13_valley (wsV RX13 59 RX13 yX13_good wsX13_good) := goodIn_app (goodIn_of _ (by decide +kernel)) ggX13_valley_X13_good
theorem dX13_valley_0 : decode cX13_valley 0 = .ok (.aload_n 0, 1) := by decide +kernel
theorem dX13_valley_1 : decode cX13_valley 1 = .ok (.iconst 0, 1) := by decide +kernel
theorem dX13_valley_2 : decode cX13_valley 2 = .ok (.putfield 49, 3) := by decide +kernel
theorem dX13_valley_5 : decode cX13_valley 5 = .ok (.aload_n 0, 1) := by decide +kernel
theorem dX13_valley_6 : decode cX13_valley 6 = .ok (.iload_n 1, 1) := by decide +kernel
theorem dX13_valley_7 : decode cX13_valley 7 = .ok (.invokevirtual 307, 3) := by decide +kernel
theorem dX13_valley_10 : decode cX13_valley 10 = .ok (.ifCond .ne 9, 3) := by decide +kernel
theorem dX13_valley_13 : decode cX13_valley 13 = .ok (.aload_n 0, 1) := by decide +kernel
theorem dX13_valley_14 : decode cX13_valley 14 = .ok (.iconst 1, 1) := by decide +kernel
theorem dX13_valley_15 : decode cX13_valley 15 = .ok (.invokevirtual 55, 3) := by decide +kernel
theorem dX13_valley_18 : decode cX13_valley 18 = .ok (.ireturn, 1) := by decide +kernel
theorem dX13_valley_19 : decode cX13_valley 19 = .ok (.aload_n 0, 1) := by decide +kernel
theorem dX13_valley_20 : decode cX13_valley 20 = .ok (.aload_n 0, 1) := by decide +kernel
theorem dX13_valley_21 : decode cX13_valley 21 = .ok (.iload_n 1, 1) := by decide +kernel
theorem dX13_valley_22 : decode cX13_valley 22 = .ok (.invokevirtual 310, 3) := by decide +kernel
theorem dX13_valley_25 : decode cX13_valley 25 = .ok (.invokevirtual 387, 3) := by decide +kernel
theorem dX13_valley_28 : decode cX13_valley 28 = .ok (.aload_n 0, 1) := by decide +kernel
theorem dX13_valley_29 : decode cX13_valley 29 = .ok (.aload_n 0, 1) := by decide +kernel
theorem dX13_valley_30 : decode cX13_valley 30 = .ok (.aload_n 0, 1) := by decide +kernel
theorem dX13_valley_31 : decode cX13_valley 31 = .ok (.iload_n 1, 1) := by decide +kernel
theorem dX13_valley_32 : decode cX13_valley 32 = .ok (.invokevirtual 312, 3) := by decide +kernel
theorem dX13_valley_35 : decode cX13_valley 35 = .ok (.aload_n 0, 1) := by decide +kernel
theorem dX13_valley_36 : decode cX13_valley 36 = .ok (.iload_n 1, 1) := by decide +kernel
theorem dX13_valley_37 : decode cX13_valley 37 = .ok (.invokevirtual 310, 3) := by decide +kernel
theorem dX13_valley_40 : decode cX13_valley 40 = .ok (.aload_n 0, 1) := by decide +kernel
theorem dX13_valley_41 : decode cX13_valley 41 = .ok (.getfield 39, 3) := by decide +kernel
theorem dX13_valley_44 : decode cX13_valley 44 = .ok (.aload_n 0, 1) := by decide +kernel
theorem dX13_valley_45 : decode cX13_valley 45 = .ok (.iload_n 1, 1) := by decide +kernel
theorem dX13_valley_46 : decode cX13_valley 46 = .ok (.invokevirtual 312, 3) := by decide +kernel
theorem dX13_valley_49 : decode cX13_valley 49 = .ok (.iaload, 1) := by decide +kernel
theorem dX13_valley_50 : decode cX13_valley 50 = .ok (.invokevirtual 390, 3) := by decide +kernel
theorem dX13_valley_53 : decode cX13_valley 53 = .ok (.invokevirtual 59, 3) := by decide +kernel
theorem dX13_valley_56 : decode cX13_valley 56 = .ok (.ireturn, 1) := by decide +kernel
set_option maxRecDepth 20000 in
theorem ggX13_rowBy_X13_bit : GoodIn wsX13_rowBy wsX13_bit := goodIn_r _ [5] (by decide +kernel) (by decide +kernel)
set_option maxRecDepth 20000 in
theorem gX13_rowBy_X13_bit : GoodIn wsX13_rowBy (va_wsS RX13 393 yX13_bit wsX13_bit) := goodIn_app (goodIn_of _ (by decide +kernel)) ggX13_rowBy_X13_bit
set_option maxRecDepth 20000 in
theorem ggX13_rowBy_X13_slipped : GoodIn wsX13_rowBy wsX13_slipped := goodIn_r _ [8] (by decide +kernel) (by decide +kernel)
set_option maxRecDepth 20000 in
theorem gX13_rowBy_X13_slipped : GoodIn wsX13_rowBy (va_wsS RX13 372 yX13_slipped wsX13_slipped) := goodIn_app (goodIn_of _ (by decide +kernel)) ggX13_rowBy_X13_slipped
theorem dX13_rowBy_0 : decode cX13_rowBy 0 = .ok (.aload_n 0, 1) := by decide +kernel
theorem dX13_rowBy_1 : decode cX13_rowBy 1 = .ok (.getfield 271, 3) := by decide +kernel
theorem dX13_rowBy_4 : decode cX13_rowBy 4 = .ok (.getfield 230, 3) := by decide +kernel
theorem dX13_rowBy_7 : decode cX13_rowBy 7 = .ok (.iload_n 1, 1) := by decide +kernel
theorem dX13_rowBy_8 : decode cX13_rowBy 8 = .ok (.iaload, 1) := by decide +kernel
theorem dX13_rowBy_9 : decode cX13_rowBy 9 = .ok (.istore_n 3, 1) := by decide +kernel
theorem dX13_rowBy_10 : decode cX13_rowBy 10 = .ok (.iconst 0, 1) := by decide +kernel
theorem dX13_rowBy_11 : decode cX13_rowBy 11 = .ok (.istore 4, 2) := by decide +kernel
theorem dX13_rowBy_13 : decode cX13_rowBy 13 = .ok (.iload 4, 2) := by decide +kernel
theorem dX13_rowBy_15 : decode cX13_rowBy 15 = .ok (.aload_n 0, 1) := by decide +kernel
theorem dX13_rowBy_16 : decode cX13_rowBy 16 = .ok (.getfield 271, 3) := by decide +kernel
theorem dX13_rowBy_19 : decode cX13_rowBy 19 = .ok (.getfield 236, 3) := by decide +kernel
theorem dX13_rowBy_22 : decode cX13_rowBy 22 = .ok (.if_icmp .ge 56, 3) := by decide +kernel
theorem dX13_rowBy_25 : decode cX13_rowBy 25 = .ok (.iload_n 2, 1) := by decide +kernel
theorem dX13_rowBy_26 : decode cX13_rowBy 26 = .ok (.iload 4, 2) := by decide +kernel
theorem dX13_rowBy_28 : decode cX13_rowBy 28 = .ok (.invokestatic 393, 3) := by decide +kernel
theorem dX13_rowBy_31 : decode cX13_rowBy 31 = .ok (.ifCond .eq 41, 3) := by decide +kernel
theorem dX13_rowBy_34 : decode cX13_rowBy 34 = .ok (.aload_n 0, 1) := by decide +kernel
theorem dX13_rowBy_35 : decode cX13_rowBy 35 = .ok (.getfield 271, 3) := by decide +kernel
theorem dX13_rowBy_38 : decode cX13_rowBy 38 = .ok (.getfield 246, 3) := by decide +kernel
theorem dX13_rowBy_41 : decode cX13_rowBy 41 = .ok (.iload 4, 2) := by decide +kernel
theorem dX13_rowBy_43 : decode cX13_rowBy 43 = .ok (.iaload, 1) := by decide +kernel
theorem dX13_rowBy_44 : decode cX13_rowBy 44 = .ok (.iload_n 1, 1) := by decide +kernel
theorem dX13_rowBy_45 : decode cX13_rowBy 45 = .ok (.if_icmp .ne 27, 3) := by decide +kernel
theorem dX13_rowBy_48 : decode cX13_rowBy 48 = .ok (.iload_n 3, 1) := by decide +kernel
theorem dX13_rowBy_49 : decode cX13_rowBy 49 = .ok (.aload_n 0, 1) := by decide +kernel
theorem dX13_rowBy_50 : decode cX13_rowBy 50 = .ok (.getfield 271, 3) := by decide +kernel
theorem dX13_rowBy_53 : decode cX13_rowBy 53 = .ok (.getfield 233, 3) := by decide +kernel
theorem dX13_rowBy_56 : decode cX13_rowBy 56 = .ok (.iload_n 1, 1) := by decide +kernel
theorem dX13_rowBy_57 : decode cX13_rowBy 57 = .ok (.iaload, 1) := by decide +kernel
theorem dX13_rowBy_58 : decode cX13_rowBy 58 = .ok (.aload_n 0, 1) := by decide +kernel
theorem dX13_rowBy_59 : decode cX13_rowBy 59 = .ok (.getfield 271, 3) := by decide +kernel
theorem dX13_rowBy_62 : decode cX13_rowBy 62 = .ok (.getfield 248, 3) := by decide +kernel
theorem dX13_rowBy_65 : decode cX13_rowBy 65 = .ok (.iload 4, 2) := by decide +kernel
theorem dX13_rowBy_67 : decode cX13_rowBy 67 = .ok (.iaload, 1) := by decide +kernel
theorem dX13_rowBy_68 : decode cX13_rowBy 68 = .ok (.invokestatic 372, 3) := by decide +kernel
theorem dX13_rowBy_71 : decode cX13_rowBy 71 = .ok (.istore_n 3, 1) := by decide +kernel
theorem dX13_rowBy_72 : decode cX13_rowBy 72 = .ok (.iinc 4 1, 3) := by decide +kernel
theorem dX13_rowBy_75 : decode cX13_rowBy 75 = .ok (.goto (-62), 3) := by decide +kernel
theorem dX13_rowBy_78 : decode cX13_rowBy 78 = .ok (.iload_n 3, 1) := by decide +kernel
theorem dX13_rowBy_79 : decode cX13_rowBy 79 = .ok (.ireturn, 1) := by decide +kernel
set_option maxRecDepth 20000 in
theorem ggX13_wrongAgreed_X13_rowBy : GoodIn wsX13_wrongAgreed wsX13_rowBy := goodIn_r _ [6, 1, 7, 8, 5, 9, 10, 11, 12, 34, 35, 36, 37, 38, 39, 40, 41, 42, 43, 44, 45, 46, 47, 48, 49, 50, 51, 52, 53, 54, 55, 56, 57, 58, 59, 60, 61, 62, 63, 64, 65, 66, 67, 68, 69, 70, 71, 72, 73, 74, 75, 76, 77, 78, 79, 80, 81, 82, 83, 84, 85, 86, 87] (by decide +kernel) (by decide +kernel)
set_option maxRecDepth 20000 in
theorem gX13_wrongAgreed_X13_rowBy : GoodIn wsX13_wrongAgreed (wsV RX13 396 RX13 yX13_rowBy wsX13_rowBy) := goodIn_app (goodIn_of _ (by decide +kernel)) ggX13_wrongAgreed_X13_rowBy
set_option maxRecDepth 20000 in
theorem ggX13_wrongAgreed_X13_agreeOf : GoodIn wsX13_wrongAgreed wsX13_agreeOf := goodIn_r _ [16, 17, 18, 19, 20, 5, 21, 22, 23, 24, 25, 26, 27, 28, 29, 30, 31, 32, 33, 34, 35, 36, 37, 38, 39, 40, 41, 42, 43, 44, 45, 46, 47, 48, 49, 50, 51, 52, 53, 54, 55, 56, 57, 58, 59, 60, 61, 62, 63, 64, 65, 66, 67, 68, 69, 70, 71] (by decide +kernel) (by decide +kernel)
set_option maxRecDepth 20000 in
theorem gX13_wrongAgreed_X13_agreeOf : GoodIn wsX13_wrongAgreed (wsV RX13 323 RX13 yX13_agreeOf wsX13_agreeOf) := goodIn_app (goodIn_of _ (by decide +kernel)) ggX13_wrongAgreed_X13_agreeOf
theorem dX13_wrongAgreed_0 : decode cX13_wrongAgreed 0 = .ok (.iconst 0, 1) := by decide +kernel
theorem dX13_wrongAgreed_1 : decode cX13_wrongAgreed 1 = .ok (.istore_n 2, 1) := by decide +kernel
theorem dX13_wrongAgreed_2 : decode cX13_wrongAgreed 2 = .ok (.iload_n 2, 1) := by decide +kernel
theorem dX13_wrongAgreed_3 : decode cX13_wrongAgreed 3 = .ok (.aload_n 0, 1) := by decide +kernel
theorem dX13_wrongAgreed_4 : decode cX13_wrongAgreed 4 = .ok (.getfield 271, 3) := by decide +kernel
theorem dX13_wrongAgreed_7 : decode cX13_wrongAgreed 7 = .ok (.getfield 250, 3) := by decide +kernel
theorem dX13_wrongAgreed_10 : decode cX13_wrongAgreed 10 = .ok (.if_icmp .ge 67, 3) := by decide +kernel
theorem dX13_wrongAgreed_13 : decode cX13_wrongAgreed 13 = .ok (.aload_n 0, 1) := by decide +kernel
theorem dX13_wrongAgreed_14 : decode cX13_wrongAgreed 14 = .ok (.aload_n 0, 1) := by decide +kernel
theorem dX13_wrongAgreed_15 : decode cX13_wrongAgreed 15 = .ok (.aload_n 0, 1) := by decide +kernel
theorem dX13_wrongAgreed_16 : decode cX13_wrongAgreed 16 = .ok (.getfield 271, 3) := by decide +kernel
theorem dX13_wrongAgreed_19 : decode cX13_wrongAgreed 19 = .ok (.getfield 256, 3) := by decide +kernel
theorem dX13_wrongAgreed_22 : decode cX13_wrongAgreed 22 = .ok (.iload_n 2, 1) := by decide +kernel
theorem dX13_wrongAgreed_23 : decode cX13_wrongAgreed 23 = .ok (.iaload, 1) := by decide +kernel
theorem dX13_wrongAgreed_24 : decode cX13_wrongAgreed 24 = .ok (.iload_n 1, 1) := by decide +kernel
theorem dX13_wrongAgreed_25 : decode cX13_wrongAgreed 25 = .ok (.invokevirtual 396, 3) := by decide +kernel
theorem dX13_wrongAgreed_28 : decode cX13_wrongAgreed 28 = .ok (.aload_n 0, 1) := by decide +kernel
theorem dX13_wrongAgreed_29 : decode cX13_wrongAgreed 29 = .ok (.getfield 271, 3) := by decide +kernel
theorem dX13_wrongAgreed_32 : decode cX13_wrongAgreed 32 = .ok (.getfield 233, 3) := by decide +kernel
theorem dX13_wrongAgreed_35 : decode cX13_wrongAgreed 35 = .ok (.aload_n 0, 1) := by decide +kernel
theorem dX13_wrongAgreed_36 : decode cX13_wrongAgreed 36 = .ok (.getfield 271, 3) := by decide +kernel
theorem dX13_wrongAgreed_39 : decode cX13_wrongAgreed 39 = .ok (.getfield 256, 3) := by decide +kernel
theorem dX13_wrongAgreed_42 : decode cX13_wrongAgreed 42 = .ok (.iload_n 2, 1) := by decide +kernel
theorem dX13_wrongAgreed_43 : decode cX13_wrongAgreed 43 = .ok (.iaload, 1) := by decide +kernel
theorem dX13_wrongAgreed_44 : decode cX13_wrongAgreed 44 = .ok (.iaload, 1) := by decide +kernel
theorem dX13_wrongAgreed_45 : decode cX13_wrongAgreed 45 = .ok (.aload_n 0, 1) := by decide +kernel
theorem dX13_wrongAgreed_46 : decode cX13_wrongAgreed 46 = .ok (.getfield 271, 3) := by decide +kernel
theorem dX13_wrongAgreed_49 : decode cX13_wrongAgreed 49 = .ok (.getfield 258, 3) := by decide +kernel
theorem dX13_wrongAgreed_52 : decode cX13_wrongAgreed 52 = .ok (.iload_n 2, 1) := by decide +kernel
theorem dX13_wrongAgreed_53 : decode cX13_wrongAgreed 53 = .ok (.iaload, 1) := by decide +kernel
theorem dX13_wrongAgreed_54 : decode cX13_wrongAgreed 54 = .ok (.invokevirtual 323, 3) := by decide +kernel
theorem dX13_wrongAgreed_57 : decode cX13_wrongAgreed 57 = .ok (.aload_n 0, 1) := by decide +kernel
theorem dX13_wrongAgreed_58 : decode cX13_wrongAgreed 58 = .ok (.getfield 271, 3) := by decide +kernel
theorem dX13_wrongAgreed_61 : decode cX13_wrongAgreed 61 = .ok (.getfield 261, 3) := by decide +kernel
theorem dX13_wrongAgreed_64 : decode cX13_wrongAgreed 64 = .ok (.iload_n 2, 1) := by decide +kernel
theorem dX13_wrongAgreed_65 : decode cX13_wrongAgreed 65 = .ok (.iaload, 1) := by decide +kernel
theorem dX13_wrongAgreed_66 : decode cX13_wrongAgreed 66 = .ok (.if_icmp .eq 5, 3) := by decide +kernel
theorem dX13_wrongAgreed_69 : decode cX13_wrongAgreed 69 = .ok (.iload_n 2, 1) := by decide +kernel
theorem dX13_wrongAgreed_70 : decode cX13_wrongAgreed 70 = .ok (.ireturn, 1) := by decide +kernel
theorem dX13_wrongAgreed_71 : decode cX13_wrongAgreed 71 = .ok (.iinc 2 1, 3) := by decide +kernel
theorem dX13_wrongAgreed_74 : decode cX13_wrongAgreed 74 = .ok (.goto (-72), 3) := by decide +kernel
theorem dX13_wrongAgreed_77 : decode cX13_wrongAgreed 77 = .ok (.bipush (-2), 2) := by decide +kernel
theorem dX13_wrongAgreed_79 : decode cX13_wrongAgreed 79 = .ok (.ireturn, 1) := by decide +kernel
set_option maxRecDepth 20000 in
theorem ggX13_fitting_X13_wrongAgreed : GoodIn wsX13_fitting wsX13_wrongAgreed := goodIn_r _ [10, 3, 11, 12, 13, 9, 14, 15, 16, 17, 18, 19, 20, 21, 22, 23, 24, 25, 26, 27, 28, 29, 30, 31, 32, 33, 34, 35, 36, 37, 38, 39, 40, 41, 42, 43, 44, 45, 46, 47, 48, 49, 50, 51, 52, 53, 54, 55, 56, 57, 58, 59, 60, 61, 62, 63, 64, 65, 66, 67, 68, 69, 70, 71, 72, 73, 74, 75, 76, 77, 78, 79, 80, 81, 82, 83, 84, 85, 86, 87, 88, 89, 90, 91, 92, 93, 94, 95] (by decide +kernel) (by decide +kernel)
set_option maxRecDepth 20000 in
theorem gX13_fitting_X13_wrongAgreed : GoodIn wsX13_fitting (wsV RX13 408 RX13 yX13_wrongAgreed wsX13_wrongAgreed) := goodIn_app (goodIn_of _ (by decide +kernel)) ggX13_fitting_X13_wrongAgreed
set_option maxRecDepth 20000 in
theorem ggX13_fitting_X13_bit : GoodIn wsX13_fitting wsX13_bit := goodIn_r _ [17] (by decide +kernel) (by decide +kernel)
set_option maxRecDepth 20000 in
theorem gX13_fitting_X13_bit : GoodIn wsX13_fitting (va_wsS RX13 393 yX13_bit wsX13_bit) := goodIn_app (goodIn_of _ (by decide +kernel)) ggX13_fitting_X13_bit
theorem dX13_fitting_0 : decode cX13_fitting 0 = .ok (.aload_n 0, 1) := by decide +kernel
theorem dX13_fitting_1 : decode cX13_fitting 1 = .ok (.iconst 0, 1) := by decide +kernel
theorem dX13_fitting_2 : decode cX13_fitting 2 = .ok (.putfield 399, 3) := by decide +kernel
theorem dX13_fitting_5 : decode cX13_fitting 5 = .ok (.aload_n 0, 1) := by decide +kernel
theorem dX13_fitting_6 : decode cX13_fitting 6 = .ok (.iconst 0, 1) := by decide +kernel
theorem dX13_fitting_7 : decode cX13_fitting 7 = .ok (.putfield 402, 3) := by decide +kernel
theorem dX13_fitting_10 : decode cX13_fitting 10 = .ok (.aload_n 0, 1) := by decide +kernel
theorem dX13_fitting_11 : decode cX13_fitting 11 = .ok (.iconst 1, 1) := by decide +kernel
theorem dX13_fitting_12 : decode cX13_fitting 12 = .ok (.aload_n 0, 1) := by decide +kernel
theorem dX13_fitting_13 : decode cX13_fitting 13 = .ok (.getfield 271, 3) := by decide +kernel
theorem dX13_fitting_16 : decode cX13_fitting 16 = .ok (.getfield 236, 3) := by decide +kernel
theorem dX13_fitting_19 : decode cX13_fitting 19 = .ok (.ishl, 1) := by decide +kernel
theorem dX13_fitting_20 : decode cX13_fitting 20 = .ok (.iconst 1, 1) := by decide +kernel
theorem dX13_fitting_21 : decode cX13_fitting 21 = .ok (.isub, 1) := by decide +kernel
theorem dX13_fitting_22 : decode cX13_fitting 22 = .ok (.putfield 405, 3) := by decide +kernel
theorem dX13_fitting_25 : decode cX13_fitting 25 = .ok (.iconst (-1), 1) := by decide +kernel
theorem dX13_fitting_26 : decode cX13_fitting 26 = .ok (.istore_n 2, 1) := by decide +kernel
theorem dX13_fitting_27 : decode cX13_fitting 27 = .ok (.iconst 0, 1) := by decide +kernel
theorem dX13_fitting_28 : decode cX13_fitting 28 = .ok (.istore_n 3, 1) := by decide +kernel
theorem dX13_fitting_29 : decode cX13_fitting 29 = .ok (.iload_n 3, 1) := by decide +kernel
theorem dX13_fitting_30 : decode cX13_fitting 30 = .ok (.iconst 4, 1) := by decide +kernel
theorem dX13_fitting_31 : decode cX13_fitting 31 = .ok (.if_icmp .ge 16, 3) := by decide +kernel
theorem dX13_fitting_34 : decode cX13_fitting 34 = .ok (.aload_n 0, 1) := by decide +kernel
theorem dX13_fitting_35 : decode cX13_fitting 35 = .ok (.getfield 46, 3) := by decide +kernel
theorem dX13_fitting_38 : decode cX13_fitting 38 = .ok (.iload_n 3, 1) := by decide +kernel
theorem dX13_fitting_39 : decode cX13_fitting 39 = .ok (.iconst 0, 1) := by decide +kernel
theorem dX13_fitting_40 : decode cX13_fitting 40 = .ok (.iastore, 1) := by decide +kernel
theorem dX13_fitting_41 : decode cX13_fitting 41 = .ok (.iinc 3 1, 3) := by decide +kernel
theorem dX13_fitting_44 : decode cX13_fitting 44 = .ok (.goto (-15), 3) := by decide +kernel
theorem dX13_fitting_47 : decode cX13_fitting 47 = .ok (.iconst 0, 1) := by decide +kernel
theorem dX13_fitting_48 : decode cX13_fitting 48 = .ok (.istore_n 3, 1) := by decide +kernel
theorem dX13_fitting_49 : decode cX13_fitting 49 = .ok (.iload_n 3, 1) := by decide +kernel
theorem dX13_fitting_50 : decode cX13_fitting 50 = .ok (.iconst 1, 1) := by decide +kernel
theorem dX13_fitting_51 : decode cX13_fitting 51 = .ok (.aload_n 0, 1) := by decide +kernel
theorem dX13_fitting_52 : decode cX13_fitting 52 = .ok (.getfield 271, 3) := by decide +kernel
theorem dX13_fitting_55 : decode cX13_fitting 55 = .ok (.getfield 236, 3) := by decide +kernel
theorem dX13_fitting_58 : decode cX13_fitting 58 = .ok (.ishl, 1) := by decide +kernel
theorem dX13_fitting_59 : decode cX13_fitting 59 = .ok (.if_icmp .ge 107, 3) := by decide +kernel
theorem dX13_fitting_62 : decode cX13_fitting 62 = .ok (.aload_n 0, 1) := by decide +kernel
theorem dX13_fitting_63 : decode cX13_fitting 63 = .ok (.iload_n 3, 1) := by decide +kernel
theorem dX13_fitting_64 : decode cX13_fitting 64 = .ok (.invokevirtual 408, 3) := by decide +kernel
theorem dX13_fitting_67 : decode cX13_fitting 67 = .ok (.bipush (-2), 2) := by decide +kernel
theorem dX13_fitting_69 : decode cX13_fitting 69 = .ok (.if_icmp .eq 6, 3) := by decide +kernel
theorem dX13_fitting_72 : decode cX13_fitting 72 = .ok (.goto 88, 3) := by decide +kernel
theorem dX13_fitting_75 : decode cX13_fitting 75 = .ok (.aload_n 0, 1) := by decide +kernel
theorem dX13_fitting_76 : decode cX13_fitting 76 = .ok (.getfield 399, 3) := by decide +kernel
theorem dX13_fitting_79 : decode cX13_fitting 79 = .ok (.iload_n 1, 1) := by decide +kernel
theorem dX13_fitting_80 : decode cX13_fitting 80 = .ok (.if_icmp .ne 5, 3) := by decide +kernel
theorem dX13_fitting_83 : decode cX13_fitting 83 = .ok (.iload_n 3, 1) := by decide +kernel
theorem dX13_fitting_84 : decode cX13_fitting 84 = .ok (.istore_n 2, 1) := by decide +kernel
theorem dX13_fitting_85 : decode cX13_fitting 85 = .ok (.aload_n 0, 1) := by decide +kernel
theorem dX13_fitting_86 : decode cX13_fitting 86 = .ok (.dup, 1) := by decide +kernel
theorem dX13_fitting_87 : decode cX13_fitting 87 = .ok (.getfield 399, 3) := by decide +kernel
theorem dX13_fitting_90 : decode cX13_fitting 90 = .ok (.iconst 1, 1) := by decide +kernel
theorem dX13_fitting_91 : decode cX13_fitting 91 = .ok (.iadd, 1) := by decide +kernel
theorem dX13_fitting_92 : decode cX13_fitting 92 = .ok (.putfield 399, 3) := by decide +kernel
theorem dX13_fitting_95 : decode cX13_fitting 95 = .ok (.aload_n 0, 1) := by decide +kernel
theorem dX13_fitting_96 : decode cX13_fitting 96 = .ok (.dup, 1) := by decide +kernel
theorem dX13_fitting_97 : decode cX13_fitting 97 = .ok (.getfield 402, 3) := by decide +kernel
theorem dX13_fitting_100 : decode cX13_fitting 100 = .ok (.iload_n 3, 1) := by decide +kernel
theorem dX13_fitting_101 : decode cX13_fitting 101 = .ok (.ior, 1) := by decide +kernel
theorem dX13_fitting_102 : decode cX13_fitting 102 = .ok (.putfield 402, 3) := by decide +kernel
theorem dX13_fitting_105 : decode cX13_fitting 105 = .ok (.aload_n 0, 1) := by decide +kernel
theorem dX13_fitting_106 : decode cX13_fitting 106 = .ok (.dup, 1) := by decide +kernel
theorem dX13_fitting_107 : decode cX13_fitting 107 = .ok (.getfield 405, 3) := by decide +kernel
theorem dX13_fitting_110 : decode cX13_fitting 110 = .ok (.iload_n 3, 1) := by decide +kernel
theorem dX13_fitting_111 : decode cX13_fitting 111 = .ok (.iand, 1) := by decide +kernel
theorem dX13_fitting_112 : decode cX13_fitting 112 = .ok (.putfield 405, 3) := by decide +kernel
theorem dX13_fitting_115 : decode cX13_fitting 115 = .ok (.iconst 0, 1) := by decide +kernel
theorem dX13_fitting_116 : decode cX13_fitting 116 = .ok (.istore 4, 2) := by decide +kernel
theorem dX13_fitting_118 : decode cX13_fitting 118 = .ok (.iload 4, 2) := by decide +kernel
theorem dX13_fitting_120 : decode cX13_fitting 120 = .ok (.aload_n 0, 1) := by decide +kernel
theorem dX13_fitting_121 : decode cX13_fitting 121 = .ok (.getfield 271, 3) := by decide +kernel
theorem dX13_fitting_124 : decode cX13_fitting 124 = .ok (.getfield 236, 3) := by decide +kernel
theorem dX13_fitting_127 : decode cX13_fitting 127 = .ok (.if_icmp .ge 33, 3) := by decide +kernel
theorem dX13_fitting_130 : decode cX13_fitting 130 = .ok (.aload_n 0, 1) := by decide +kernel
theorem dX13_fitting_131 : decode cX13_fitting 131 = .ok (.getfield 46, 3) := by decide +kernel
theorem dX13_fitting_134 : decode cX13_fitting 134 = .ok (.iload 4, 2) := by decide +kernel
theorem dX13_fitting_136 : decode cX13_fitting 136 = .ok (.dup2, 1) := by decide +kernel
theorem dX13_fitting_137 : decode cX13_fitting 137 = .ok (.iaload, 1) := by decide +kernel
theorem dX13_fitting_138 : decode cX13_fitting 138 = .ok (.iload_n 3, 1) := by decide +kernel
theorem dX13_fitting_139 : decode cX13_fitting 139 = .ok (.iload 4, 2) := by decide +kernel
theorem dX13_fitting_141 : decode cX13_fitting 141 = .ok (.invokestatic 393, 3) := by decide +kernel
theorem dX13_fitting_144 : decode cX13_fitting 144 = .ok (.ifCond .eq 7, 3) := by decide +kernel
theorem dX13_fitting_147 : decode cX13_fitting 147 = .ok (.iconst 1, 1) := by decide +kernel
theorem dX13_fitting_148 : decode cX13_fitting 148 = .ok (.goto 4, 3) := by decide +kernel
theorem dX13_fitting_151 : decode cX13_fitting 151 = .ok (.iconst 0, 1) := by decide +kernel
theorem dX13_fitting_152 : decode cX13_fitting 152 = .ok (.iadd, 1) := by decide +kernel
theorem dX13_fitting_153 : decode cX13_fitting 153 = .ok (.iastore, 1) := by decide +kernel
theorem dX13_fitting_154 : decode cX13_fitting 154 = .ok (.iinc 4 1, 3) := by decide +kernel
theorem dX13_fitting_157 : decode cX13_fitting 157 = .ok (.goto (-39), 3) := by decide +kernel
theorem dX13_fitting_160 : decode cX13_fitting 160 = .ok (.iinc 3 1, 3) := by decide +kernel
theorem dX13_fitting_163 : decode cX13_fitting 163 = .ok (.goto (-114), 3) := by decide +kernel
theorem dX13_fitting_166 : decode cX13_fitting 166 = .ok (.aload_n 0, 1) := by decide +kernel
theorem dX13_fitting_167 : decode cX13_fitting 167 = .ok (.getfield 399, 3) := by decide +kernel
theorem dX13_fitting_170 : decode cX13_fitting 170 = .ok (.ifCond .ne 8, 3) := by decide +kernel
theorem dX13_fitting_173 : decode cX13_fitting 173 = .ok (.aload_n 0, 1) := by decide +kernel
theorem dX13_fitting_174 : decode cX13_fitting 174 = .ok (.iconst 0, 1) := by decide +kernel
theorem dX13_fitting_175 : decode cX13_fitting 175 = .ok (.putfield 405, 3) := by decide +kernel
theorem dX13_fitting_178 : decode cX13_fitting 178 = .ok (.iload_n 2, 1) := by decide +kernel
theorem dX13_fitting_179 : decode cX13_fitting 179 = .ok (.ireturn, 1) := by decide +kernel
set_option maxRecDepth 20000 in
theorem ggX13_fits_X13_refused : GoodIn wsX13_fits wsX13_refused := goodIn_r _ [8, 9, 10, 57, 58, 59, 60, 61, 62, 63, 64, 65, 66, 67, 68, 69, 70, 71, 72, 73, 74, 75, 76, 77, 78, 79, 80, 81, 82, 83, 84, 85, 86, 87, 88, 89, 90, 91, 92, 93, 94] (by decide +kernel) (by decide +kernel)
set_option maxRecDepth 20000 in
theorem gX13_fits_X13_refused : GoodIn wsX13_fits (wsV RX13 55 RX13 yX13_refused wsX13_refused) := goodIn_app (goodIn_of _ (by decide +kernel)) ggX13_fits_X13_refused
set_option maxRecDepth 20000 in
theorem ggX13_fits_X13_fitting : GoodIn wsX13_fits wsX13_fitting := goodIn_r _ [14, 3, 15, 2, 16, 17, 18, 19, 20, 7, 21, 22, 23, 24, 25, 26, 27, 28, 29, 30, 31, 32, 33, 34, 35, 36, 37, 38, 39, 40, 41, 42, 43, 44, 45, 46, 47, 48, 49, 50, 51, 52, 57, 58, 59, 60, 61, 62, 63, 64, 65, 66, 67, 68, 69, 70, 71, 72, 73, 74, 75, 76, 77, 78, 79, 80, 81, 82, 83, 84, 85, 86, 87, 88, 89, 90, 91, 92, 93, 94, 95, 96, 97, 98, 99, 100, 101, 102, 103, 104, 105, 106, 107, 108, 109, 110] (by decide +kernel) (by decide +kernel)
set_option maxRecDepth 20000 in
theorem gX13_fits_X13_fitting : GoodIn wsX13_fits (wsV RX13 411 RX13 yX13_fitting wsX13_fitting) := goodIn_app (goodIn_of _ (by decide +kernel)) ggX13_fits_X13_fitting
set_option maxRecDepth 20000 in
theorem ggX13_fits_X13_good : GoodIn wsX13_fits wsX13_good := goodIn_r _ [56, 9, 10, 57, 58, 59, 60, 61, 62, 63, 64, 65, 66, 67, 68, 69, 70, 71, 72, 73, 74, 75, 76, 77, 78, 79, 80, 81, 82, 83, 84, 85, 86, 87, 88, 89, 90, 91, 92, 93, 94] (by decide +kernel) (by decide +kernel)
set_option maxRecDepth 20000 in
theorem gX13_fits_X13_good : GoodIn wsX13_fits (wsV RX13 59 RX13 yX13_good wsX13_good) := goodIn_app (goodIn_of _ (by decide +kernel)) ggX13_fits_X13_good
theorem dX13_fits_0 : decode cX13_fits 0 = .ok (.aload_n 0, 1) := by decide +kernel
theorem dX13_fits_1 : decode cX13_fits 1 = .ok (.iconst 0, 1) := by decide +kernel
theorem dX13_fits_2 : decode cX13_fits 2 = .ok (.putfield 49, 3) := by decide +kernel
theorem dX13_fits_5 : decode cX13_fits 5 = .ok (.aload_n 0, 1) := by decide +kernel
theorem dX13_fits_6 : decode cX13_fits 6 = .ok (.getfield 271, 3) := by decide +kernel
theorem dX13_fits_9 : decode cX13_fits 9 = .ok (.ifnonnull 9, 3) := by decide +kernel
theorem dX13_fits_12 : decode cX13_fits 12 = .ok (.aload_n 0, 1) := by decide +kernel
theorem dX13_fits_13 : decode cX13_fits 13 = .ok (.iconst 1, 1) := by decide +kernel
theorem dX13_fits_14 : decode cX13_fits 14 = .ok (.invokevirtual 55, 3) := by decide +kernel
theorem dX13_fits_17 : decode cX13_fits 17 = .ok (.ireturn, 1) := by decide +kernel
theorem dX13_fits_18 : decode cX13_fits 18 = .ok (.aload_n 0, 1) := by decide +kernel
theorem dX13_fits_19 : decode cX13_fits 19 = .ok (.iconst (-1), 1) := by decide +kernel
theorem dX13_fits_20 : decode cX13_fits 20 = .ok (.invokevirtual 411, 3) := by decide +kernel
theorem dX13_fits_23 : decode cX13_fits 23 = .ok (.pop, 1) := by decide +kernel
theorem dX13_fits_24 : decode cX13_fits 24 = .ok (.aload_n 0, 1) := by decide +kernel
theorem dX13_fits_25 : decode cX13_fits 25 = .ok (.aload_n 0, 1) := by decide +kernel
theorem dX13_fits_26 : decode cX13_fits 26 = .ok (.getfield 399, 3) := by decide +kernel
theorem dX13_fits_29 : decode cX13_fits 29 = .ok (.invokevirtual 59, 3) := by decide +kernel
theorem dX13_fits_32 : decode cX13_fits 32 = .ok (.ireturn, 1) := by decide +kernel
set_option maxRecDepth 20000 in
theorem ggX13_fitAt_X13_refused : GoodIn wsX13_fitAt wsX13_refused := goodIn_r _ [7, 8, 9, 57, 58, 59, 60, 61, 62, 63, 64, 65, 66, 67, 68, 69, 70, 71, 72, 73, 74, 75, 76, 77, 78, 79, 80, 81, 82, 83, 84, 85, 86, 87, 88, 89, 90, 91, 92, 93, 94] (by decide +kernel) (by decide +kernel)
set_option maxRecDepth 20000 in
theorem gX13_fitAt_X13_refused : GoodIn wsX13_fitAt (wsV RX13 55 RX13 yX13_refused wsX13_refused) := goodIn_app (goodIn_of _ (by decide +kernel)) ggX13_fitAt_X13_refused
set_option maxRecDepth 20000 in
theorem ggX13_fitAt_X13_fitting : GoodIn wsX13_fitAt wsX13_fitting := goodIn_r _ [13, 14, 15, 2, 16, 17, 18, 19, 20, 6, 21, 22, 23, 24, 25, 26, 27, 28, 29, 30, 31, 32, 33, 34, 35, 36, 37, 38, 39, 40, 41, 42, 43, 44, 45, 46, 47, 48, 49, 50, 51, 52, 57, 58, 59, 60, 61, 62, 63, 64, 65, 66, 67, 68, 69, 70, 71, 72, 73, 74, 75, 76, 77, 78, 79, 80, 81, 82, 83, 84, 85, 86, 87, 88, 89, 90, 91, 92, 93, 94, 95, 96, 97, 98, 99, 100, 101, 102, 103, 104, 105, 106, 107, 108, 109, 110] (by decide +kernel) (by decide +kernel)
set_option maxRecDepth 20000 in
theorem gX13_fitAt_X13_fitting : GoodIn wsX13_fitAt (wsV RX13 411 RX13 yX13_fitting wsX13_fitting) := goodIn_app (goodIn_of _ (by decide +kernel)) ggX13_fitAt_X13_fitting
set_option maxRecDepth 20000 in
theorem ggX13_fitAt_X13_good : GoodIn wsX13_fitAt wsX13_good := goodIn_r _ [56, 8, 9, 57, 58, 59, 60, 61, 62, 63, 64, 65, 66, 67, 68, 69, 70, 71, 72, 73, 74, 75, 76, 77, 78, 79, 80, 81, 82, 83, 84, 85, 86, 87, 88, 89, 90, 91, 92, 93, 94] (by decide +kernel) (by decide +kernel)
set_option maxRecDepth 20000 in
theorem gX13_fitAt_X13_good : GoodIn wsX13_fitAt (wsV RX13 59 RX13 yX13_good wsX13_good) := goodIn_app (goodIn_of _ (by decide +kernel)) ggX13_fitAt_X13_good
theorem dX13_fitAt_0 : decode cX13_fitAt 0 = .ok (.aload_n 0, 1) := by decide +kernel
theorem dX13_fitAt_1 : decode cX13_fitAt 1 = .ok (.iconst 0, 1) := by decide +kernel
theorem dX13_fitAt_2 : decode cX13_fitAt 2 = .ok (.putfield 49, 3) := by decide +kernel
theorem dX13_fitAt_5 : decode cX13_fitAt 5 = .ok (.aload_n 0, 1) := by decide +kernel
theorem dX13_fitAt_6 : decode cX13_fitAt 6 = .ok (.getfield 271, 3) := by decide +kernel
theorem dX13_fitAt_9 : decode cX13_fitAt 9 = .ok (.ifnull 7, 3) := by decide +kernel
theorem dX13_fitAt_12 : decode cX13_fitAt 12 = .ok (.iload_n 1, 1) := by decide +kernel
theorem dX13_fitAt_13 : decode cX13_fitAt 13 = .ok (.ifCond .ge 9, 3) := by decide +kernel
theorem dX13_fitAt_16 : decode cX13_fitAt 16 = .ok (.aload_n 0, 1) := by decide +kernel
theorem dX13_fitAt_17 : decode cX13_fitAt 17 = .ok (.iconst 1, 1) := by decide +kernel
theorem dX13_fitAt_18 : decode cX13_fitAt 18 = .ok (.invokevirtual 55, 3) := by decide +kernel
theorem dX13_fitAt_21 : decode cX13_fitAt 21 = .ok (.ireturn, 1) := by decide +kernel
theorem dX13_fitAt_22 : decode cX13_fitAt 22 = .ok (.aload_n 0, 1) := by decide +kernel
theorem dX13_fitAt_23 : decode cX13_fitAt 23 = .ok (.iload_n 1, 1) := by decide +kernel
theorem dX13_fitAt_24 : decode cX13_fitAt 24 = .ok (.invokevirtual 411, 3) := by decide +kernel
theorem dX13_fitAt_27 : decode cX13_fitAt 27 = .ok (.istore_n 2, 1) := by decide +kernel
theorem dX13_fitAt_28 : decode cX13_fitAt 28 = .ok (.iload_n 2, 1) := by decide +kernel
theorem dX13_fitAt_29 : decode cX13_fitAt 29 = .ok (.iconst (-1), 1) := by decide +kernel
theorem dX13_fitAt_30 : decode cX13_fitAt 30 = .ok (.if_icmp .ne 11, 3) := by decide +kernel
theorem dX13_fitAt_33 : decode cX13_fitAt 33 = .ok (.aload_n 0, 1) := by decide +kernel
theorem dX13_fitAt_34 : decode cX13_fitAt 34 = .ok (.iconst 1, 1) := by decide +kernel
theorem dX13_fitAt_35 : decode cX13_fitAt 35 = .ok (.invokevirtual 55, 3) := by decide +kernel
theorem dX13_fitAt_38 : decode cX13_fitAt 38 = .ok (.goto 8, 3) := by decide +kernel
theorem dX13_fitAt_41 : decode cX13_fitAt 41 = .ok (.aload_n 0, 1) := by decide +kernel
theorem dX13_fitAt_42 : decode cX13_fitAt 42 = .ok (.iload_n 2, 1) := by decide +kernel
theorem dX13_fitAt_43 : decode cX13_fitAt 43 = .ok (.invokevirtual 59, 3) := by decide +kernel
theorem dX13_fitAt_46 : decode cX13_fitAt 46 = .ok (.ireturn, 1) := by decide +kernel
set_option maxRecDepth 20000 in
theorem ggX13_could_X13_refused : GoodIn wsX13_could wsX13_refused := goodIn_r _ [8, 9, 10, 57, 58, 59, 60, 61, 62, 63, 64, 65, 66, 67, 68, 69, 70, 71, 72, 73, 74, 75, 76, 77, 78, 79, 80, 81, 82, 83, 84, 85, 86, 87, 88, 89, 90, 91, 92, 93, 94] (by decide +kernel) (by decide +kernel)
set_option maxRecDepth 20000 in
theorem gX13_could_X13_refused : GoodIn wsX13_could (wsV RX13 55 RX13 yX13_refused wsX13_refused) := goodIn_app (goodIn_of _ (by decide +kernel)) ggX13_could_X13_refused
set_option maxRecDepth 20000 in
theorem ggX13_could_X13_fitting : GoodIn wsX13_could wsX13_fitting := goodIn_r _ [14, 15, 3, 2, 16, 17, 18, 19, 20, 7, 21, 22, 23, 24, 25, 26, 27, 28, 29, 30, 31, 32, 33, 34, 35, 36, 37, 38, 39, 40, 41, 42, 43, 44, 45, 46, 47, 48, 49, 50, 51, 52, 57, 58, 59, 60, 61, 62, 63, 64, 65, 66, 67, 68, 69, 70, 71, 72, 73, 74, 75, 76, 77, 78, 79, 80, 81, 82, 83, 84, 85, 86, 87, 88, 89, 90, 91, 92, 93, 94, 95, 96, 97, 98, 99, 100, 101, 102, 103, 104, 105, 106, 107, 108, 109, 110] (by decide +kernel) (by decide +kernel)
set_option maxRecDepth 20000 in
theorem gX13_could_X13_fitting : GoodIn wsX13_could (wsV RX13 411 RX13 yX13_fitting wsX13_fitting) := goodIn_app (goodIn_of _ (by decide +kernel)) ggX13_could_X13_fitting
set_option maxRecDepth 20000 in
theorem ggX13_could_X13_good : GoodIn wsX13_could wsX13_good := goodIn_r _ [56, 9, 10, 57, 58, 59, 60, 61, 62, 63, 64, 65, 66, 67, 68, 69, 70, 71, 72, 73, 74, 75, 76, 77, 78, 79, 80, 81, 82, 83, 84, 85, 86, 87, 88, 89, 90, 91, 92, 93, 94] (by decide +kernel) (by decide +kernel)
set_option maxRecDepth 20000 in
theorem gX13_could_X13_good : GoodIn wsX13_could (wsV RX13 59 RX13 yX13_good wsX13_good) := goodIn_app (goodIn_of _ (by decide +kernel)) ggX13_could_X13_good
theorem dX13_could_0 : decode cX13_could 0 = .ok (.aload_n 0, 1) := by decide +kernel
theorem dX13_could_1 : decode cX13_could 1 = .ok (.iconst 0, 1) := by decide +kernel
theorem dX13_could_2 : decode cX13_could 2 = .ok (.putfield 49, 3) := by decide +kernel
theorem dX13_could_5 : decode cX13_could 5 = .ok (.aload_n 0, 1) := by decide +kernel
theorem dX13_could_6 : decode cX13_could 6 = .ok (.getfield 271, 3) := by decide +kernel
theorem dX13_could_9 : decode cX13_could 9 = .ok (.ifnonnull 9, 3) := by decide +kernel
theorem dX13_could_12 : decode cX13_could 12 = .ok (.aload_n 0, 1) := by decide +kernel
theorem dX13_could_13 : decode cX13_could 13 = .ok (.iconst 1, 1) := by decide +kernel
theorem dX13_could_14 : decode cX13_could 14 = .ok (.invokevirtual 55, 3) := by decide +kernel
theorem dX13_could_17 : decode cX13_could 17 = .ok (.ireturn, 1) := by decide +kernel
theorem dX13_could_18 : decode cX13_could 18 = .ok (.aload_n 0, 1) := by decide +kernel
theorem dX13_could_19 : decode cX13_could 19 = .ok (.iconst (-1), 1) := by decide +kernel
theorem dX13_could_20 : decode cX13_could 20 = .ok (.invokevirtual 411, 3) := by decide +kernel
theorem dX13_could_23 : decode cX13_could 23 = .ok (.pop, 1) := by decide +kernel
theorem dX13_could_24 : decode cX13_could 24 = .ok (.aload_n 0, 1) := by decide +kernel
theorem dX13_could_25 : decode cX13_could 25 = .ok (.aload_n 0, 1) := by decide +kernel
theorem dX13_could_26 : decode cX13_could 26 = .ok (.getfield 402, 3) := by decide +kernel
theorem dX13_could_29 : decode cX13_could 29 = .ok (.invokevirtual 59, 3) := by decide +kernel
theorem dX13_could_32 : decode cX13_could 32 = .ok (.ireturn, 1) := by decide +kernel
set_option maxRecDepth 20000 in
theorem ggX13_surely_X13_refused : GoodIn wsX13_surely wsX13_refused := goodIn_r _ [8, 9, 10, 57, 58, 59, 60, 61, 62, 63, 64, 65, 66, 67, 68, 69, 70, 71, 72, 73, 74, 75, 76, 77, 78, 79, 80, 81, 82, 83, 84, 85, 86, 87, 88, 89, 90, 91, 92, 93, 94] (by decide +kernel) (by decide +kernel)
set_option maxRecDepth 20000 in
theorem gX13_surely_X13_refused : GoodIn wsX13_surely (wsV RX13 55 RX13 yX13_refused wsX13_refused) := goodIn_app (goodIn_of _ (by decide +kernel)) ggX13_surely_X13_refused
set_option maxRecDepth 20000 in
theorem ggX13_surely_X13_fitting : GoodIn wsX13_surely wsX13_fitting := goodIn_r _ [14, 15, 16, 2, 3, 17, 18, 19, 20, 7, 21, 22, 23, 24, 25, 26, 27, 28, 29, 30, 31, 32, 33, 34, 35, 36, 37, 38, 39, 40, 41, 42, 43, 44, 45, 46, 47, 48, 49, 50, 51, 52, 57, 58, 59, 60, 61, 62, 63, 64, 65, 66, 67, 68, 69, 70, 71, 72, 73, 74, 75, 76, 77, 78, 79, 80, 81, 82, 83, 84, 85, 86, 87, 88, 89, 90, 91, 92, 93, 94, 95, 96, 97, 98, 99, 100, 101, 102, 103, 104, 105, 106, 107, 108, 109, 110] (by decide +kernel) (by decide +kernel)
set_option maxRecDepth 20000 in
theorem gX13_surely_X13_fitting : GoodIn wsX13_surely (wsV RX13 411 RX13 yX13_fitting wsX13_fitting) := goodIn_app (goodIn_of _ (by decide +kernel)) ggX13_surely_X13_fitting
set_option maxRecDepth 20000 in
theorem ggX13_surely_X13_good : GoodIn wsX13_surely wsX13_good := goodIn_r _ [56, 9, 10, 57, 58, 59, 60, 61, 62, 63, 64, 65, 66, 67, 68, 69, 70, 71, 72, 73, 74, 75, 76, 77, 78, 79, 80, 81, 82, 83, 84, 85, 86, 87, 88, 89, 90, 91, 92, 93, 94] (by decide +kernel) (by decide +kernel)
set_option maxRecDepth 20000 in
theorem gX13_surely_X13_good : GoodIn wsX13_surely (wsV RX13 59 RX13 yX13_good wsX13_good) := goodIn_app (goodIn_of _ (by decide +kernel)) ggX13_surely_X13_good
theorem dX13_surely_0 : decode cX13_surely 0 = .ok (.aload_n 0, 1) := by decide +kernel
theorem dX13_surely_1 : decode cX13_surely 1 = .ok (.iconst 0, 1) := by decide +kernel
theorem dX13_surely_2 : decode cX13_surely 2 = .ok (.putfield 49, 3) := by decide +kernel
theorem dX13_surely_5 : decode cX13_surely 5 = .ok (.aload_n 0, 1) := by decide +kernel
theorem dX13_surely_6 : decode cX13_surely 6 = .ok (.getfield 271, 3) := by decide +kernel
theorem dX13_surely_9 : decode cX13_surely 9 = .ok (.ifnonnull 9, 3) := by decide +kernel
theorem dX13_surely_12 : decode cX13_surely 12 = .ok (.aload_n 0, 1) := by decide +kernel
theorem dX13_surely_13 : decode cX13_surely 13 = .ok (.iconst 1, 1) := by decide +kernel
theorem dX13_surely_14 : decode cX13_surely 14 = .ok (.invokevirtual 55, 3) := by decide +kernel
theorem dX13_surely_17 : decode cX13_surely 17 = .ok (.ireturn, 1) := by decide +kernel
theorem dX13_surely_18 : decode cX13_surely 18 = .ok (.aload_n 0, 1) := by decide +kernel
theorem dX13_surely_19 : decode cX13_surely 19 = .ok (.iconst (-1), 1) := by decide +kernel
theorem dX13_surely_20 : decode cX13_surely 20 = .ok (.invokevirtual 411, 3) := by decide +kernel
theorem dX13_surely_23 : decode cX13_surely 23 = .ok (.pop, 1) := by decide +kernel
theorem dX13_surely_24 : decode cX13_surely 24 = .ok (.aload_n 0, 1) := by decide +kernel
theorem dX13_surely_25 : decode cX13_surely 25 = .ok (.aload_n 0, 1) := by decide +kernel
theorem dX13_surely_26 : decode cX13_surely 26 = .ok (.getfield 405, 3) := by decide +kernel
theorem dX13_surely_29 : decode cX13_surely 29 = .ok (.invokevirtual 59, 3) := by decide +kernel
theorem dX13_surely_32 : decode cX13_surely 32 = .ok (.ireturn, 1) := by decide +kernel
set_option maxRecDepth 20000 in
theorem ggX13_asks_X13_fitting : GoodIn wsX13_asks wsX13_fitting := goodIn_r _ [9, 3, 10, 2, 11, 4, 12, 13, 14, 8, 15, 16, 17, 18, 19, 20, 21, 22, 23, 24, 25, 26, 27, 28, 29, 30, 31, 32, 33, 34, 35, 36, 37, 38, 39, 40, 41, 42, 43, 44, 45, 46, 47, 48, 49, 50, 51, 52, 53, 54, 55, 56, 57, 58, 59, 60, 61, 62, 63, 64, 65, 66, 67, 68, 69, 70, 71, 72, 73, 74, 75, 76, 77, 78, 79, 80, 81, 82, 83, 84, 85, 86, 87, 88, 89, 90, 91, 92, 93, 94, 95, 96, 97, 98, 99, 100] (by decide +kernel) (by decide +kernel)
set_option maxRecDepth 20000 in
theorem gX13_asks_X13_fitting : GoodIn wsX13_asks (wsV RX13 411 RX13 yX13_fitting wsX13_fitting) := goodIn_app (goodIn_of _ (by decide +kernel)) ggX13_asks_X13_fitting
theorem dX13_asks_0 : decode cX13_asks 0 = .ok (.aload_n 0, 1) := by decide +kernel
theorem dX13_asks_1 : decode cX13_asks 1 = .ok (.iconst (-1), 1) := by decide +kernel
theorem dX13_asks_2 : decode cX13_asks 2 = .ok (.invokevirtual 411, 3) := by decide +kernel
theorem dX13_asks_5 : decode cX13_asks 5 = .ok (.pop, 1) := by decide +kernel
theorem dX13_asks_6 : decode cX13_asks 6 = .ok (.bipush (-2), 2) := by decide +kernel
theorem dX13_asks_8 : decode cX13_asks 8 = .ok (.istore_n 1, 1) := by decide +kernel
theorem dX13_asks_9 : decode cX13_asks 9 = .ok (.aload_n 0, 1) := by decide +kernel
theorem dX13_asks_10 : decode cX13_asks 10 = .ok (.bipush (-2), 2) := by decide +kernel
theorem dX13_asks_12 : decode cX13_asks 12 = .ok (.putfield 414, 3) := by decide +kernel
theorem dX13_asks_15 : decode cX13_asks 15 = .ok (.iconst 0, 1) := by decide +kernel
theorem dX13_asks_16 : decode cX13_asks 16 = .ok (.istore_n 2, 1) := by decide +kernel
theorem dX13_asks_17 : decode cX13_asks 17 = .ok (.iload_n 2, 1) := by decide +kernel
theorem dX13_asks_18 : decode cX13_asks 18 = .ok (.aload_n 0, 1) := by decide +kernel
theorem dX13_asks_19 : decode cX13_asks 19 = .ok (.getfield 271, 3) := by decide +kernel
theorem dX13_asks_22 : decode cX13_asks 22 = .ok (.getfield 236, 3) := by decide +kernel
theorem dX13_asks_25 : decode cX13_asks 25 = .ok (.if_icmp .ge 81, 3) := by decide +kernel
theorem dX13_asks_28 : decode cX13_asks 28 = .ok (.aload_n 0, 1) := by decide +kernel
theorem dX13_asks_29 : decode cX13_asks 29 = .ok (.getfield 399, 3) := by decide +kernel
theorem dX13_asks_32 : decode cX13_asks 32 = .ok (.ifCond .le 74, 3) := by decide +kernel
theorem dX13_asks_35 : decode cX13_asks 35 = .ok (.aload_n 0, 1) := by decide +kernel
theorem dX13_asks_36 : decode cX13_asks 36 = .ok (.getfield 46, 3) := by decide +kernel
theorem dX13_asks_39 : decode cX13_asks 39 = .ok (.iload_n 2, 1) := by decide +kernel
theorem dX13_asks_40 : decode cX13_asks 40 = .ok (.iaload, 1) := by decide +kernel
theorem dX13_asks_41 : decode cX13_asks 41 = .ok (.aload_n 0, 1) := by decide +kernel
theorem dX13_asks_42 : decode cX13_asks 42 = .ok (.getfield 399, 3) := by decide +kernel
theorem dX13_asks_45 : decode cX13_asks 45 = .ok (.aload_n 0, 1) := by decide +kernel
theorem dX13_asks_46 : decode cX13_asks 46 = .ok (.getfield 46, 3) := by decide +kernel
theorem dX13_asks_49 : decode cX13_asks 49 = .ok (.iload_n 2, 1) := by decide +kernel
theorem dX13_asks_50 : decode cX13_asks 50 = .ok (.iaload, 1) := by decide +kernel
theorem dX13_asks_51 : decode cX13_asks 51 = .ok (.isub, 1) := by decide +kernel
theorem dX13_asks_52 : decode cX13_asks 52 = .ok (.if_icmp .le 12, 3) := by decide +kernel
theorem dX13_asks_55 : decode cX13_asks 55 = .ok (.aload_n 0, 1) := by decide +kernel
theorem dX13_asks_56 : decode cX13_asks 56 = .ok (.getfield 46, 3) := by decide +kernel
theorem dX13_asks_59 : decode cX13_asks 59 = .ok (.iload_n 2, 1) := by decide +kernel
theorem dX13_asks_60 : decode cX13_asks 60 = .ok (.iaload, 1) := by decide +kernel
theorem dX13_asks_61 : decode cX13_asks 61 = .ok (.goto 14, 3) := by decide +kernel
theorem dX13_asks_64 : decode cX13_asks 64 = .ok (.aload_n 0, 1) := by decide +kernel
theorem dX13_asks_65 : decode cX13_asks 65 = .ok (.getfield 399, 3) := by decide +kernel
theorem dX13_asks_68 : decode cX13_asks 68 = .ok (.aload_n 0, 1) := by decide +kernel
theorem dX13_asks_69 : decode cX13_asks 69 = .ok (.getfield 46, 3) := by decide +kernel
theorem dX13_asks_72 : decode cX13_asks 72 = .ok (.iload_n 2, 1) := by decide +kernel
theorem dX13_asks_73 : decode cX13_asks 73 = .ok (.iaload, 1) := by decide +kernel
theorem dX13_asks_74 : decode cX13_asks 74 = .ok (.isub, 1) := by decide +kernel
theorem dX13_asks_75 : decode cX13_asks 75 = .ok (.istore_n 3, 1) := by decide +kernel
theorem dX13_asks_76 : decode cX13_asks 76 = .ok (.iload_n 1, 1) := by decide +kernel
theorem dX13_asks_77 : decode cX13_asks 77 = .ok (.bipush (-2), 2) := by decide +kernel
theorem dX13_asks_79 : decode cX13_asks 79 = .ok (.if_icmp .eq 14, 3) := by decide +kernel
theorem dX13_asks_82 : decode cX13_asks 82 = .ok (.iload_n 3, 1) := by decide +kernel
theorem dX13_asks_83 : decode cX13_asks 83 = .ok (.aload_n 0, 1) := by decide +kernel
theorem dX13_asks_84 : decode cX13_asks 84 = .ok (.getfield 414, 3) := by decide +kernel
theorem dX13_asks_87 : decode cX13_asks 87 = .ok (.if_icmp .lt 6, 3) := by decide +kernel
theorem dX13_asks_90 : decode cX13_asks 90 = .ok (.goto 10, 3) := by decide +kernel
theorem dX13_asks_93 : decode cX13_asks 93 = .ok (.iload_n 2, 1) := by decide +kernel
theorem dX13_asks_94 : decode cX13_asks 94 = .ok (.istore_n 1, 1) := by decide +kernel
theorem dX13_asks_95 : decode cX13_asks 95 = .ok (.aload_n 0, 1) := by decide +kernel
theorem dX13_asks_96 : decode cX13_asks 96 = .ok (.iload_n 3, 1) := by decide +kernel
theorem dX13_asks_97 : decode cX13_asks 97 = .ok (.putfield 414, 3) := by decide +kernel
theorem dX13_asks_100 : decode cX13_asks 100 = .ok (.iinc 2 1, 3) := by decide +kernel
theorem dX13_asks_103 : decode cX13_asks 103 = .ok (.goto (-86), 3) := by decide +kernel
theorem dX13_asks_106 : decode cX13_asks 106 = .ok (.iload_n 1, 1) := by decide +kernel
theorem dX13_asks_107 : decode cX13_asks 107 = .ok (.ireturn, 1) := by decide +kernel
set_option maxRecDepth 20000 in
theorem ggX13_ask_X13_refused : GoodIn wsX13_ask wsX13_refused := goodIn_r _ [7, 8, 9, 62, 63, 64, 65, 66, 67, 68, 69, 70, 71, 72, 73, 74, 75, 76, 77, 78, 79, 80, 81, 82, 83, 84, 85, 86, 87, 88, 89, 90, 91, 92, 93, 94, 95, 96, 97, 98, 99] (by decide +kernel) (by decide +kernel)
set_option maxRecDepth 20000 in
theorem gX13_ask_X13_refused : GoodIn wsX13_ask (wsV RX13 55 RX13 yX13_refused wsX13_refused) := goodIn_app (goodIn_of _ (by decide +kernel)) ggX13_ask_X13_refused
set_option maxRecDepth 20000 in
theorem ggX13_ask_X13_asks : GoodIn wsX13_ask wsX13_asks := goodIn_r _ [13, 14, 2, 15, 16, 17, 18, 19, 6, 20, 21, 22, 23, 24, 25, 26, 27, 28, 29, 30, 31, 32, 33, 34, 35, 36, 37, 38, 39, 40, 41, 42, 43, 44, 45, 46, 47, 48, 49, 50, 51, 52, 53, 54, 55, 56, 57, 62, 63, 64, 65, 66, 67, 68, 69, 70, 71, 72, 73, 74, 75, 76, 77, 78, 79, 80, 81, 82, 83, 84, 85, 86, 87, 88, 89, 90, 91, 92, 93, 94, 95, 96, 97, 98, 99, 100, 101, 102, 103, 104, 105, 106, 107, 108, 109, 110, 111, 112, 113, 114, 115] (by decide +kernel) (by decide +kernel)
set_option maxRecDepth 20000 in
theorem gX13_ask_X13_asks : GoodIn wsX13_ask (wsV RX13 417 RX13 yX13_asks wsX13_asks) := goodIn_app (goodIn_of _ (by decide +kernel)) ggX13_ask_X13_asks
set_option maxRecDepth 20000 in
theorem ggX13_ask_X13_good : GoodIn wsX13_ask wsX13_good := goodIn_r _ [61, 8, 9, 62, 63, 64, 65, 66, 67, 68, 69, 70, 71, 72, 73, 74, 75, 76, 77, 78, 79, 80, 81, 82, 83, 84, 85, 86, 87, 88, 89, 90, 91, 92, 93, 94, 95, 96, 97, 98, 99] (by decide +kernel) (by decide +kernel)
set_option maxRecDepth 20000 in
theorem gX13_ask_X13_good : GoodIn wsX13_ask (wsV RX13 59 RX13 yX13_good wsX13_good) := goodIn_app (goodIn_of _ (by decide +kernel)) ggX13_ask_X13_good
theorem dX13_ask_0 : decode cX13_ask 0 = .ok (.aload_n 0, 1) := by decide +kernel
theorem dX13_ask_1 : decode cX13_ask 1 = .ok (.iconst 0, 1) := by decide +kernel
theorem dX13_ask_2 : decode cX13_ask 2 = .ok (.putfield 49, 3) := by decide +kernel
theorem dX13_ask_5 : decode cX13_ask 5 = .ok (.aload_n 0, 1) := by decide +kernel
theorem dX13_ask_6 : decode cX13_ask 6 = .ok (.getfield 271, 3) := by decide +kernel
theorem dX13_ask_9 : decode cX13_ask 9 = .ok (.ifnonnull 11, 3) := by decide +kernel
theorem dX13_ask_12 : decode cX13_ask 12 = .ok (.aload_n 0, 1) := by decide +kernel
theorem dX13_ask_13 : decode cX13_ask 13 = .ok (.iconst 1, 1) := by decide +kernel
theorem dX13_ask_14 : decode cX13_ask 14 = .ok (.invokevirtual 55, 3) := by decide +kernel
theorem dX13_ask_17 : decode cX13_ask 17 = .ok (.goto 11, 3) := by decide +kernel
theorem dX13_ask_20 : decode cX13_ask 20 = .ok (.aload_n 0, 1) := by decide +kernel
theorem dX13_ask_21 : decode cX13_ask 21 = .ok (.aload_n 0, 1) := by decide +kernel
theorem dX13_ask_22 : decode cX13_ask 22 = .ok (.invokevirtual 417, 3) := by decide +kernel
theorem dX13_ask_25 : decode cX13_ask 25 = .ok (.invokevirtual 59, 3) := by decide +kernel
theorem dX13_ask_28 : decode cX13_ask 28 = .ok (.ireturn, 1) := by decide +kernel
set_option maxRecDepth 20000 in
theorem ggX13_askLeaves_X13_refused : GoodIn wsX13_askLeaves wsX13_refused := goodIn_r _ [8, 9, 10, 62, 63, 64, 65, 66, 67, 68, 69, 70, 71, 72, 73, 74, 75, 76, 77, 78, 79, 80, 81, 82, 83, 84, 85, 86, 87, 88, 89, 90, 91, 92, 93, 94, 95, 96, 97, 98, 99] (by decide +kernel) (by decide +kernel)
set_option maxRecDepth 20000 in
theorem gX13_askLeaves_X13_refused : GoodIn wsX13_askLeaves (wsV RX13 55 RX13 yX13_refused wsX13_refused) := goodIn_app (goodIn_of _ (by decide +kernel)) ggX13_askLeaves_X13_refused
set_option maxRecDepth 20000 in
theorem ggX13_askLeaves_X13_asks : GoodIn wsX13_askLeaves wsX13_asks := goodIn_r _ [14, 3, 2, 15, 16, 17, 18, 19, 7, 20, 21, 22, 23, 24, 25, 26, 27, 28, 29, 30, 31, 32, 33, 34, 35, 36, 37, 38, 39, 40, 41, 42, 43, 44, 45, 46, 47, 48, 49, 50, 51, 52, 53, 54, 55, 56, 57, 62, 63, 64, 65, 66, 67, 68, 69, 70, 71, 72, 73, 74, 75, 76, 77, 78, 79, 80, 81, 82, 83, 84, 85, 86, 87, 88, 89, 90, 91, 92, 93, 94, 95, 96, 97, 98, 99, 100, 101, 102, 103, 104, 105, 106, 107, 108, 109, 110, 111, 112, 113, 114, 115] (by decide +kernel) (by decide +kernel)
set_option maxRecDepth 20000 in
theorem gX13_askLeaves_X13_asks : GoodIn wsX13_askLeaves (wsV RX13 417 RX13 yX13_asks wsX13_asks) := goodIn_app (goodIn_of _ (by decide +kernel)) ggX13_askLeaves_X13_asks
set_option maxRecDepth 20000 in
theorem ggX13_askLeaves_X13_good : GoodIn wsX13_askLeaves wsX13_good := goodIn_r _ [61, 9, 10, 62, 63, 64, 65, 66, 67, 68, 69, 70, 71, 72, 73, 74, 75, 76, 77, 78, 79, 80, 81, 82, 83, 84, 85, 86, 87, 88, 89, 90, 91, 92, 93, 94, 95, 96, 97, 98, 99] (by decide +kernel) (by decide +kernel)
set_option maxRecDepth 20000 in
theorem gX13_askLeaves_X13_good : GoodIn wsX13_askLeaves (wsV RX13 59 RX13 yX13_good wsX13_good) := goodIn_app (goodIn_of _ (by decide +kernel)) ggX13_askLeaves_X13_good
theorem dX13_askLeaves_0 : decode cX13_askLeaves 0 = .ok (.aload_n 0, 1) := by decide +kernel
theorem dX13_askLeaves_1 : decode cX13_askLeaves 1 = .ok (.iconst 0, 1) := by decide +kernel
theorem dX13_askLeaves_2 : decode cX13_askLeaves 2 = .ok (.putfield 49, 3) := by decide +kernel
theorem dX13_askLeaves_5 : decode cX13_askLeaves 5 = .ok (.aload_n 0, 1) := by decide +kernel
theorem dX13_askLeaves_6 : decode cX13_askLeaves 6 = .ok (.getfield 271, 3) := by decide +kernel
theorem dX13_askLeaves_9 : decode cX13_askLeaves 9 = .ok (.ifnonnull 9, 3) := by decide +kernel
theorem dX13_askLeaves_12 : decode cX13_askLeaves 12 = .ok (.aload_n 0, 1) := by decide +kernel
theorem dX13_askLeaves_13 : decode cX13_askLeaves 13 = .ok (.iconst 1, 1) := by decide +kernel
theorem dX13_askLeaves_14 : decode cX13_askLeaves 14 = .ok (.invokevirtual 55, 3) := by decide +kernel
theorem dX13_askLeaves_17 : decode cX13_askLeaves 17 = .ok (.ireturn, 1) := by decide +kernel
theorem dX13_askLeaves_18 : decode cX13_askLeaves 18 = .ok (.aload_n 0, 1) := by decide +kernel
theorem dX13_askLeaves_19 : decode cX13_askLeaves 19 = .ok (.invokevirtual 417, 3) := by decide +kernel
theorem dX13_askLeaves_22 : decode cX13_askLeaves 22 = .ok (.pop, 1) := by decide +kernel
theorem dX13_askLeaves_23 : decode cX13_askLeaves 23 = .ok (.aload_n 0, 1) := by decide +kernel
theorem dX13_askLeaves_24 : decode cX13_askLeaves 24 = .ok (.aload_n 0, 1) := by decide +kernel
theorem dX13_askLeaves_25 : decode cX13_askLeaves 25 = .ok (.getfield 414, 3) := by decide +kernel
theorem dX13_askLeaves_28 : decode cX13_askLeaves 28 = .ok (.invokevirtual 59, 3) := by decide +kernel
theorem dX13_askLeaves_31 : decode cX13_askLeaves 31 = .ok (.ireturn, 1) := by decide +kernel
set_option maxRecDepth 20000 in
theorem ggX13_judge_X13_refused : GoodIn wsX13_judge wsX13_refused := goodIn_r _ [7, 8, 9, 49, 50, 51, 52, 53, 54, 55, 56, 57, 58, 59, 60, 61, 62, 63, 64, 65, 66, 67, 68, 69, 70, 71, 72, 73, 74, 75, 76, 77, 78, 79, 80, 81, 82, 83, 84, 85, 86] (by decide +kernel) (by decide +kernel)
set_option maxRecDepth 20000 in
theorem gX13_judge_X13_refused : GoodIn wsX13_judge (wsV RX13 55 RX13 yX13_refused wsX13_refused) := goodIn_app (goodIn_of _ (by decide +kernel)) ggX13_judge_X13_refused
set_option maxRecDepth 20000 in
theorem ggX13_judge_X13_wrongAgreed : GoodIn wsX13_judge wsX13_wrongAgreed := goodIn_r _ [13, 2, 14, 15, 16, 6, 17, 18, 19, 20, 21, 22, 23, 24, 25, 26, 27, 28, 29, 30, 31, 32, 33, 34, 35, 36, 37, 38, 39, 40, 41, 42, 43, 44, 49, 50, 51, 52, 53, 54, 55, 56, 57, 58, 59, 60, 61, 62, 63, 64, 65, 66, 67, 68, 69, 70, 71, 72, 73, 74, 75, 76, 77, 78, 79, 80, 81, 82, 83, 84, 85, 86, 87, 88, 89, 90, 91, 92, 93, 94, 95, 96, 97, 98, 99, 100, 101, 102] (by decide +kernel) (by decide +kernel)
set_option maxRecDepth 20000 in
theorem gX13_judge_X13_wrongAgreed : GoodIn wsX13_judge (wsV RX13 408 RX13 yX13_wrongAgreed wsX13_wrongAgreed) := goodIn_app (goodIn_of _ (by decide +kernel)) ggX13_judge_X13_wrongAgreed
set_option maxRecDepth 20000 in
theorem ggX13_judge_X13_good : GoodIn wsX13_judge wsX13_good := goodIn_r _ [48, 8, 9, 49, 50, 51, 52, 53, 54, 55, 56, 57, 58, 59, 60, 61, 62, 63, 64, 65, 66, 67, 68, 69, 70, 71, 72, 73, 74, 75, 76, 77, 78, 79, 80, 81, 82, 83, 84, 85, 86] (by decide +kernel) (by decide +kernel)
set_option maxRecDepth 20000 in
theorem gX13_judge_X13_good : GoodIn wsX13_judge (wsV RX13 59 RX13 yX13_good wsX13_good) := goodIn_app (goodIn_of _ (by decide +kernel)) ggX13_judge_X13_good
theorem dX13_judge_0 : decode cX13_judge 0 = .ok (.aload_n 0, 1) := by decide +kernel
theorem dX13_judge_1 : decode cX13_judge 1 = .ok (.iconst 0, 1) := by decide +kernel
theorem dX13_judge_2 : decode cX13_judge 2 = .ok (.putfield 49, 3) := by decide +kernel
theorem dX13_judge_5 : decode cX13_judge 5 = .ok (.aload_n 0, 1) := by decide +kernel
theorem dX13_judge_6 : decode cX13_judge 6 = .ok (.getfield 271, 3) := by decide +kernel
theorem dX13_judge_9 : decode cX13_judge 9 = .ok (.ifnonnull 11, 3) := by decide +kernel
theorem dX13_judge_12 : decode cX13_judge 12 = .ok (.aload_n 0, 1) := by decide +kernel
theorem dX13_judge_13 : decode cX13_judge 13 = .ok (.iconst 1, 1) := by decide +kernel
theorem dX13_judge_14 : decode cX13_judge 14 = .ok (.invokevirtual 55, 3) := by decide +kernel
theorem dX13_judge_17 : decode cX13_judge 17 = .ok (.goto 12, 3) := by decide +kernel
theorem dX13_judge_20 : decode cX13_judge 20 = .ok (.aload_n 0, 1) := by decide +kernel
theorem dX13_judge_21 : decode cX13_judge 21 = .ok (.aload_n 0, 1) := by decide +kernel
theorem dX13_judge_22 : decode cX13_judge 22 = .ok (.iconst 0, 1) := by decide +kernel
theorem dX13_judge_23 : decode cX13_judge 23 = .ok (.invokevirtual 408, 3) := by decide +kernel
theorem dX13_judge_26 : decode cX13_judge 26 = .ok (.invokevirtual 59, 3) := by decide +kernel
theorem dX13_judge_29 : decode cX13_judge 29 = .ok (.ireturn, 1) := by decide +kernel
set_option maxRecDepth 20000 in
theorem ggX13_refusesGrowth_X13_in : GoodIn wsX13_refusesGrowth wsX13_in := goodIn_r _ [5] (by decide +kernel) (by decide +kernel)
set_option maxRecDepth 20000 in
theorem gX13_refusesGrowth_X13_in : GoodIn wsX13_refusesGrowth (va_wsS RX13 137 yX13_in wsX13_in) := goodIn_app (goodIn_of _ (by decide +kernel)) ggX13_refusesGrowth_X13_in
theorem dX13_refusesGrowth_0 : decode cX13_refusesGrowth 0 = .ok (.aload_n 0, 1) := by decide +kernel
theorem dX13_refusesGrowth_1 : decode cX13_refusesGrowth 1 = .ok (.getfield 271, 3) := by decide +kernel
theorem dX13_refusesGrowth_4 : decode cX13_refusesGrowth 4 = .ok (.ifnonnull 7, 3) := by decide +kernel
theorem dX13_refusesGrowth_7 : decode cX13_refusesGrowth 7 = .ok (.iconst 1, 1) := by decide +kernel
theorem dX13_refusesGrowth_8 : decode cX13_refusesGrowth 8 = .ok (.goto 17, 3) := by decide +kernel
theorem dX13_refusesGrowth_11 : decode cX13_refusesGrowth 11 = .ok (.iload_n 1, 1) := by decide +kernel
theorem dX13_refusesGrowth_12 : decode cX13_refusesGrowth 12 = .ok (.iconst 1, 1) := by decide +kernel
theorem dX13_refusesGrowth_13 : decode cX13_refusesGrowth 13 = .ok (.iload_n 2, 1) := by decide +kernel
theorem dX13_refusesGrowth_14 : decode cX13_refusesGrowth 14 = .ok (.invokestatic 137, 3) := by decide +kernel
theorem dX13_refusesGrowth_17 : decode cX13_refusesGrowth 17 = .ok (.ifCond .eq 7, 3) := by decide +kernel
theorem dX13_refusesGrowth_20 : decode cX13_refusesGrowth 20 = .ok (.iconst 0, 1) := by decide +kernel
theorem dX13_refusesGrowth_21 : decode cX13_refusesGrowth 21 = .ok (.goto 4, 3) := by decide +kernel
theorem dX13_refusesGrowth_24 : decode cX13_refusesGrowth 24 = .ok (.iconst 2, 1) := by decide +kernel
theorem dX13_refusesGrowth_25 : decode cX13_refusesGrowth 25 = .ok (.ireturn, 1) := by decide +kernel
set_option maxRecDepth 20000 in
theorem ggX13_odds_X13_refusesGrowth : GoodIn wsX13_odds wsX13_refusesGrowth := goodIn_r _ [8, 2, 9, 10, 7, 11, 38, 39, 40, 41, 42, 43, 44, 45, 46, 47, 48, 49, 50, 51, 52, 53, 54, 55, 56, 57, 58, 59, 60, 61, 62, 63, 64, 65, 66, 67, 68, 69, 70, 71, 72, 73, 74, 75] (by decide +kernel) (by decide +kernel)
set_option maxRecDepth 20000 in
theorem gX13_odds_X13_refusesGrowth : GoodIn wsX13_odds (wsV RX13 420 RX13 yX13_refusesGrowth wsX13_refusesGrowth) := goodIn_app (goodIn_of _ (by decide +kernel)) ggX13_odds_X13_refusesGrowth
set_option maxRecDepth 20000 in
theorem ggX13_odds_X13_in : GoodIn wsX13_odds wsX13_in := goodIn_r _ [11] (by decide +kernel) (by decide +kernel)
set_option maxRecDepth 20000 in
theorem gX13_odds_X13_in : GoodIn wsX13_odds (va_wsS RX13 137 yX13_in wsX13_in) := goodIn_app (goodIn_of _ (by decide +kernel)) ggX13_odds_X13_in
set_option maxRecDepth 20000 in
theorem ggX13_odds_X13_refused : GoodIn wsX13_odds wsX13_refused := goodIn_r _ [15, 16, 17, 38, 39, 40, 41, 42, 43, 44, 45, 46, 47, 48, 49, 50, 51, 52, 53, 54, 55, 56, 57, 58, 59, 60, 61, 62, 63, 64, 65, 66, 67, 68, 69, 70, 71, 72, 73, 74, 75] (by decide +kernel) (by decide +kernel)
set_option maxRecDepth 20000 in
theorem gX13_odds_X13_refused : GoodIn wsX13_odds (wsV RX13 55 RX13 yX13_refused wsX13_refused) := goodIn_app (goodIn_of _ (by decide +kernel)) ggX13_odds_X13_refused
set_option maxRecDepth 20000 in
theorem ggX13_odds_X13_all : GoodIn wsX13_odds wsX13_all := goodIn_r _ [20] (by decide +kernel) (by decide +kernel)
set_option maxRecDepth 20000 in
theorem gX13_odds_X13_all : GoodIn wsX13_odds (va_wsS RX13 285 yX13_all wsX13_all) := goodIn_app (goodIn_of _ (by decide +kernel)) ggX13_odds_X13_all
set_option maxRecDepth 20000 in
theorem ggX13_odds_X13_bits : GoodIn wsX13_odds wsX13_bits := goodIn_r _ [23] (by decide +kernel) (by decide +kernel)
set_option maxRecDepth 20000 in
theorem gX13_odds_X13_bits : GoodIn wsX13_odds (va_wsS RX13 279 yX13_bits wsX13_bits) := goodIn_app (goodIn_of _ (by decide +kernel)) ggX13_odds_X13_bits
set_option maxRecDepth 20000 in
theorem ggX13_odds_X13_power : GoodIn wsX13_odds wsX13_power := goodIn_r _ [26] (by decide +kernel) (by decide +kernel)
set_option maxRecDepth 20000 in
theorem gX13_odds_X13_power : GoodIn wsX13_odds (va_wsS RX13 423 yX13_power wsX13_power) := goodIn_app (goodIn_of _ (by decide +kernel)) ggX13_odds_X13_power
set_option maxRecDepth 20000 in
theorem ggX13_odds_X13_fraction : GoodIn wsX13_odds wsX13_fraction := goodIn_r _ [30, 31, 32, 33, 7, 34, 16, 17, 35, 36, 37, 38, 39, 40, 41, 42, 43, 44, 45, 46, 47, 48, 49, 50, 51, 52, 53, 54, 55, 56, 57, 58, 59, 60, 61, 62, 63, 64, 65, 66, 67, 68, 69, 70, 71, 72, 73, 74, 75] (by decide +kernel) (by decide +kernel)
set_option maxRecDepth 20000 in
theorem gX13_odds_X13_fraction : GoodIn wsX13_odds (wsV RX13 326 RX13 yX13_fraction wsX13_fraction) := goodIn_app (goodIn_of _ (by decide +kernel)) ggX13_odds_X13_fraction
theorem dX13_odds_0 : decode cX13_odds 0 = .ok (.aload_n 0, 1) := by decide +kernel
theorem dX13_odds_1 : decode cX13_odds 1 = .ok (.iconst 0, 1) := by decide +kernel
theorem dX13_odds_2 : decode cX13_odds 2 = .ok (.putfield 49, 3) := by decide +kernel
theorem dX13_odds_5 : decode cX13_odds 5 = .ok (.aload_n 0, 1) := by decide +kernel
theorem dX13_odds_6 : decode cX13_odds 6 = .ok (.iload_n 1, 1) := by decide +kernel
theorem dX13_odds_7 : decode cX13_odds 7 = .ok (.bipush 8, 2) := by decide +kernel
theorem dX13_odds_9 : decode cX13_odds 9 = .ok (.invokevirtual 420, 3) := by decide +kernel
theorem dX13_odds_12 : decode cX13_odds 12 = .ok (.istore 4, 2) := by decide +kernel
theorem dX13_odds_14 : decode cX13_odds 14 = .ok (.iload 4, 2) := by decide +kernel
theorem dX13_odds_16 : decode cX13_odds 16 = .ok (.ifCond .ne 16, 3) := by decide +kernel
theorem dX13_odds_19 : decode cX13_odds 19 = .ok (.iload_n 2, 1) := by decide +kernel
theorem dX13_odds_20 : decode cX13_odds 20 = .ok (.iconst 0, 1) := by decide +kernel
theorem dX13_odds_21 : decode cX13_odds 21 = .ok (.bipush 7, 2) := by decide +kernel
theorem dX13_odds_23 : decode cX13_odds 23 = .ok (.invokestatic 137, 3) := by decide +kernel
theorem dX13_odds_26 : decode cX13_odds 26 = .ok (.ifCond .ne 6, 3) := by decide +kernel
theorem dX13_odds_29 : decode cX13_odds 29 = .ok (.iconst 2, 1) := by decide +kernel
theorem dX13_odds_30 : decode cX13_odds 30 = .ok (.istore 4, 2) := by decide +kernel
theorem dX13_odds_32 : decode cX13_odds 32 = .ok (.iload 4, 2) := by decide +kernel
theorem dX13_odds_34 : decode cX13_odds 34 = .ok (.ifCond .le 11, 3) := by decide +kernel
theorem dX13_odds_37 : decode cX13_odds 37 = .ok (.aload_n 0, 1) := by decide +kernel
theorem dX13_odds_38 : decode cX13_odds 38 = .ok (.iload 4, 2) := by decide +kernel
theorem dX13_odds_40 : decode cX13_odds 40 = .ok (.invokevirtual 55, 3) := by decide +kernel
theorem dX13_odds_43 : decode cX13_odds 43 = .ok (.i2l, 1) := by decide +kernel
theorem dX13_odds_44 : decode cX13_odds 44 = .ok (.lreturn, 1) := by decide +kernel
theorem dX13_odds_45 : decode cX13_odds 45 = .ok (.lconst 0, 1) := by decide +kernel
theorem dX13_odds_46 : decode cX13_odds 46 = .ok (.lstore 5, 2) := by decide +kernel
theorem dX13_odds_48 : decode cX13_odds 48 = .ok (.iconst 0, 1) := by decide +kernel
theorem dX13_odds_49 : decode cX13_odds 49 = .ok (.istore 7, 2) := by decide +kernel
theorem dX13_odds_51 : decode cX13_odds 51 = .ok (.iload 7, 2) := by decide +kernel
theorem dX13_odds_53 : decode cX13_odds 53 = .ok (.iload_n 1, 1) := by decide +kernel
theorem dX13_odds_54 : decode cX13_odds 54 = .ok (.iconst 1, 1) := by decide +kernel
theorem dX13_odds_55 : decode cX13_odds 55 = .ok (.isub, 1) := by decide +kernel
theorem dX13_odds_56 : decode cX13_odds 56 = .ok (.invokestatic 285, 3) := by decide +kernel
theorem dX13_odds_59 : decode cX13_odds 59 = .ok (.if_icmp .gt 63, 3) := by decide +kernel
theorem dX13_odds_62 : decode cX13_odds 62 = .ok (.iload 7, 2) := by decide +kernel
theorem dX13_odds_64 : decode cX13_odds 64 = .ok (.invokestatic 279, 3) := by decide +kernel
theorem dX13_odds_67 : decode cX13_odds 67 = .ok (.iload_n 2, 1) := by decide +kernel
theorem dX13_odds_68 : decode cX13_odds 68 = .ok (.if_icmp .gt 48, 3) := by decide +kernel
theorem dX13_odds_71 : decode cX13_odds 71 = .ok (.lload 5, 2) := by decide +kernel
theorem dX13_odds_73 : decode cX13_odds 73 = .ok (.bipush 100, 2) := by decide +kernel
theorem dX13_odds_75 : decode cX13_odds 75 = .ok (.aload_n 0, 1) := by decide +kernel
theorem dX13_odds_76 : decode cX13_odds 76 = .ok (.getfield 271, 3) := by decide +kernel
theorem dX13_odds_79 : decode cX13_odds 79 = .ok (.getfield 220, 3) := by decide +kernel
theorem dX13_odds_82 : decode cX13_odds 82 = .ok (.isub, 1) := by decide +kernel
theorem dX13_odds_83 : decode cX13_odds 83 = .ok (.i2l, 1) := by decide +kernel
theorem dX13_odds_84 : decode cX13_odds 84 = .ok (.iload 7, 2) := by decide +kernel
theorem dX13_odds_86 : decode cX13_odds 86 = .ok (.invokestatic 279, 3) := by decide +kernel
theorem dX13_odds_89 : decode cX13_odds 89 = .ok (.invokestatic 423, 3) := by decide +kernel
theorem dX13_odds_92 : decode cX13_odds 92 = .ok (.aload_n 0, 1) := by decide +kernel
theorem dX13_odds_93 : decode cX13_odds 93 = .ok (.getfield 271, 3) := by decide +kernel
theorem dX13_odds_96 : decode cX13_odds 96 = .ok (.getfield 220, 3) := by decide +kernel
theorem dX13_odds_99 : decode cX13_odds 99 = .ok (.i2l, 1) := by decide +kernel
theorem dX13_odds_100 : decode cX13_odds 100 = .ok (.iload_n 1, 1) := by decide +kernel
theorem dX13_odds_101 : decode cX13_odds 101 = .ok (.iconst 1, 1) := by decide +kernel
theorem dX13_odds_102 : decode cX13_odds 102 = .ok (.isub, 1) := by decide +kernel
theorem dX13_odds_103 : decode cX13_odds 103 = .ok (.iload 7, 2) := by decide +kernel
theorem dX13_odds_105 : decode cX13_odds 105 = .ok (.invokestatic 279, 3) := by decide +kernel
theorem dX13_odds_108 : decode cX13_odds 108 = .ok (.isub, 1) := by decide +kernel
theorem dX13_odds_109 : decode cX13_odds 109 = .ok (.invokestatic 423, 3) := by decide +kernel
theorem dX13_odds_112 : decode cX13_odds 112 = .ok (.lmul, 1) := by decide +kernel
theorem dX13_odds_113 : decode cX13_odds 113 = .ok (.ladd, 1) := by decide +kernel
theorem dX13_odds_114 : decode cX13_odds 114 = .ok (.lstore 5, 2) := by decide +kernel
theorem dX13_odds_116 : decode cX13_odds 116 = .ok (.iinc 7 1, 3) := by decide +kernel
theorem dX13_odds_119 : decode cX13_odds 119 = .ok (.goto (-68), 3) := by decide +kernel
theorem dX13_odds_122 : decode cX13_odds 122 = .ok (.aload_n 0, 1) := by decide +kernel
theorem dX13_odds_123 : decode cX13_odds 123 = .ok (.lload 5, 2) := by decide +kernel
theorem dX13_odds_125 : decode cX13_odds 125 = .ok (.ldc2_w 427, 3) := by decide +kernel
theorem dX13_odds_128 : decode cX13_odds 128 = .ok (.iload_n 1, 1) := by decide +kernel
theorem dX13_odds_129 : decode cX13_odds 129 = .ok (.iconst 1, 1) := by decide +kernel
theorem dX13_odds_130 : decode cX13_odds 130 = .ok (.isub, 1) := by decide +kernel
theorem dX13_odds_131 : decode cX13_odds 131 = .ok (.invokestatic 423, 3) := by decide +kernel
theorem dX13_odds_134 : decode cX13_odds 134 = .ok (.iload_n 3, 1) := by decide +kernel
theorem dX13_odds_135 : decode cX13_odds 135 = .ok (.invokevirtual 326, 3) := by decide +kernel
theorem dX13_odds_138 : decode cX13_odds 138 = .ok (.lreturn, 1) := by decide +kernel
set_option maxRecDepth 20000 in
theorem ggX13_rowOdds_X13_isStack : GoodIn wsX13_rowOdds wsX13_isStack := goodIn_r _ [8, 2, 41, 42, 43, 44, 45, 46, 47, 48, 49, 50, 51, 52, 53, 54, 55, 56, 57, 58, 59, 60, 61, 62, 63, 64, 65, 66, 67, 68, 69, 70, 71, 72, 73, 74, 75, 76, 77, 78, 79, 80, 81, 82, 83, 84, 85, 86, 87, 88, 89, 90, 91, 92, 93, 94] (by decide +kernel) (by decide +kernel)
set_option maxRecDepth 20000 in
theorem gX13_rowOdds_X13_isStack : GoodIn wsX13_rowOdds (wsV RX13 307 RX13 yX13_isStack wsX13_isStack) := goodIn_app (goodIn_of _ (by decide +kernel)) ggX13_rowOdds_X13_isStack
set_option maxRecDepth 20000 in
theorem ggX13_rowOdds_X13_refused : GoodIn wsX13_rowOdds wsX13_refused := goodIn_r _ [12, 13, 14, 41, 42, 43, 44, 45, 46, 47, 48, 49, 50, 51, 52, 53, 54, 55, 56, 57, 58, 59, 60, 61, 62, 63, 64, 65, 66, 67, 68, 69, 70, 71, 72, 73, 74, 75, 76, 77, 78] (by decide +kernel) (by decide +kernel)
set_option maxRecDepth 20000 in
theorem gX13_rowOdds_X13_refused : GoodIn wsX13_rowOdds (wsV RX13 55 RX13 yX13_refused wsX13_refused) := goodIn_app (goodIn_of _ (by decide +kernel)) ggX13_rowOdds_X13_refused
set_option maxRecDepth 20000 in
theorem ggX13_rowOdds_X13_steps : GoodIn wsX13_rowOdds wsX13_steps := goodIn_r _ [18, 19, 41, 42, 43, 44, 45, 46, 47, 48, 49, 50, 51, 52, 53, 54, 55, 56, 57, 58, 59, 60, 61, 62, 63, 64, 65, 66, 67, 68, 69, 70, 71, 72, 73, 74, 75, 76, 77, 78] (by decide +kernel) (by decide +kernel)
set_option maxRecDepth 20000 in
theorem gX13_rowOdds_X13_steps : GoodIn wsX13_rowOdds (wsV RX13 310 RX13 yX13_steps wsX13_steps) := goodIn_app (goodIn_of _ (by decide +kernel)) ggX13_rowOdds_X13_steps
set_option maxRecDepth 20000 in
theorem ggX13_rowOdds_X13_row : GoodIn wsX13_rowOdds wsX13_row := goodIn_r _ [23, 19, 41, 42, 43, 44, 45, 46, 47, 48, 49, 50, 51, 52, 53, 54, 55, 56, 57, 58, 59, 60, 61, 62, 63, 64, 65, 66, 67, 68, 69, 70, 71, 72, 73, 74, 75, 76, 77, 78] (by decide +kernel) (by decide +kernel)
set_option maxRecDepth 20000 in
theorem gX13_rowOdds_X13_row : GoodIn wsX13_rowOdds (wsV RX13 312 RX13 yX13_row wsX13_row) := goodIn_app (goodIn_of _ (by decide +kernel)) ggX13_rowOdds_X13_row
set_option maxRecDepth 20000 in
theorem ggX13_rowOdds_X13_step : GoodIn wsX13_rowOdds wsX13_step := goodIn_r _ [26] (by decide +kernel) (by decide +kernel)
set_option maxRecDepth 20000 in
theorem gX13_rowOdds_X13_step : GoodIn wsX13_rowOdds (va_wsS RX13 288 yX13_step wsX13_step) := goodIn_app (goodIn_of _ (by decide +kernel)) ggX13_rowOdds_X13_step
set_option maxRecDepth 20000 in
theorem ggX13_rowOdds_X13_power : GoodIn wsX13_rowOdds wsX13_power := goodIn_r _ [29] (by decide +kernel) (by decide +kernel)
set_option maxRecDepth 20000 in
theorem gX13_rowOdds_X13_power : GoodIn wsX13_rowOdds (va_wsS RX13 423 yX13_power wsX13_power) := goodIn_app (goodIn_of _ (by decide +kernel)) ggX13_rowOdds_X13_power
set_option maxRecDepth 20000 in
theorem ggX13_rowOdds_X13_fraction : GoodIn wsX13_rowOdds wsX13_fraction := goodIn_r _ [33, 34, 35, 36, 7, 37, 13, 14, 38, 39, 40, 41, 42, 43, 44, 45, 46, 47, 48, 49, 50, 51, 52, 53, 54, 55, 56, 57, 58, 59, 60, 61, 62, 63, 64, 65, 66, 67, 68, 69, 70, 71, 72, 73, 74, 75, 76, 77, 78] (by decide +kernel) (by decide +kernel)
set_option maxRecDepth 20000 in
theorem gX13_rowOdds_X13_fraction : GoodIn wsX13_rowOdds (wsV RX13 326 RX13 yX13_fraction wsX13_fraction) := goodIn_app (goodIn_of _ (by decide +kernel)) ggX13_rowOdds_X13_fraction
theorem dX13_rowOdds_0 : decode cX13_rowOdds 0 = .ok (.aload_n 0, 1) := by decide +kernel
theorem dX13_rowOdds_1 : decode cX13_rowOdds 1 = .ok (.iconst 0, 1) := by decide +kernel
theorem dX13_rowOdds_2 : decode cX13_rowOdds 2 = .ok (.putfield 49, 3) := by decide +kernel
theorem dX13_rowOdds_5 : decode cX13_rowOdds 5 = .ok (.aload_n 0, 1) := by decide +kernel
theorem dX13_rowOdds_6 : decode cX13_rowOdds 6 = .ok (.iload_n 1, 1) := by decide +kernel
theorem dX13_rowOdds_7 : decode cX13_rowOdds 7 = .ok (.invokevirtual 307, 3) := by decide +kernel
theorem dX13_rowOdds_10 : decode cX13_rowOdds 10 = .ok (.ifCond .ne 10, 3) := by decide +kernel
theorem dX13_rowOdds_13 : decode cX13_rowOdds 13 = .ok (.aload_n 0, 1) := by decide +kernel
theorem dX13_rowOdds_14 : decode cX13_rowOdds 14 = .ok (.iconst 1, 1) := by decide +kernel
theorem dX13_rowOdds_15 : decode cX13_rowOdds 15 = .ok (.invokevirtual 55, 3) := by decide +kernel
theorem dX13_rowOdds_18 : decode cX13_rowOdds 18 = .ok (.i2l, 1) := by decide +kernel
theorem dX13_rowOdds_19 : decode cX13_rowOdds 19 = .ok (.lreturn, 1) := by decide +kernel
theorem dX13_rowOdds_20 : decode cX13_rowOdds 20 = .ok (.aload_n 0, 1) := by decide +kernel
theorem dX13_rowOdds_21 : decode cX13_rowOdds 21 = .ok (.iload_n 1, 1) := by decide +kernel
theorem dX13_rowOdds_22 : decode cX13_rowOdds 22 = .ok (.invokevirtual 310, 3) := by decide +kernel
theorem dX13_rowOdds_25 : decode cX13_rowOdds 25 = .ok (.istore_n 3, 1) := by decide +kernel
theorem dX13_rowOdds_26 : decode cX13_rowOdds 26 = .ok (.iload_n 3, 1) := by decide +kernel
theorem dX13_rowOdds_27 : decode cX13_rowOdds 27 = .ok (.bipush 8, 2) := by decide +kernel
theorem dX13_rowOdds_29 : decode cX13_rowOdds 29 = .ok (.if_icmp .le 10, 3) := by decide +kernel
theorem dX13_rowOdds_32 : decode cX13_rowOdds 32 = .ok (.aload_n 0, 1) := by decide +kernel
theorem dX13_rowOdds_33 : decode cX13_rowOdds 33 = .ok (.iconst 5, 1) := by decide +kernel
theorem dX13_rowOdds_34 : decode cX13_rowOdds 34 = .ok (.invokevirtual 55, 3) := by decide +kernel
theorem dX13_rowOdds_37 : decode cX13_rowOdds 37 = .ok (.i2l, 1) := by decide +kernel
theorem dX13_rowOdds_38 : decode cX13_rowOdds 38 = .ok (.lreturn, 1) := by decide +kernel
theorem dX13_rowOdds_39 : decode cX13_rowOdds 39 = .ok (.lconst 1, 1) := by decide +kernel
theorem dX13_rowOdds_40 : decode cX13_rowOdds 40 = .ok (.lstore 4, 2) := by decide +kernel
theorem dX13_rowOdds_42 : decode cX13_rowOdds 42 = .ok (.iconst 1, 1) := by decide +kernel
theorem dX13_rowOdds_43 : decode cX13_rowOdds 43 = .ok (.istore 6, 2) := by decide +kernel
theorem dX13_rowOdds_45 : decode cX13_rowOdds 45 = .ok (.iload 6, 2) := by decide +kernel
theorem dX13_rowOdds_47 : decode cX13_rowOdds 47 = .ok (.iload_n 3, 1) := by decide +kernel
theorem dX13_rowOdds_48 : decode cX13_rowOdds 48 = .ok (.if_icmp .ge 63, 3) := by decide +kernel
theorem dX13_rowOdds_51 : decode cX13_rowOdds 51 = .ok (.lload 4, 2) := by decide +kernel
theorem dX13_rowOdds_53 : decode cX13_rowOdds 53 = .ok (.aload_n 0, 1) := by decide +kernel
theorem dX13_rowOdds_54 : decode cX13_rowOdds 54 = .ok (.iload_n 1, 1) := by decide +kernel
theorem dX13_rowOdds_55 : decode cX13_rowOdds 55 = .ok (.invokevirtual 312, 3) := by decide +kernel
theorem dX13_rowOdds_58 : decode cX13_rowOdds 58 = .ok (.iload_n 3, 1) := by decide +kernel
theorem dX13_rowOdds_59 : decode cX13_rowOdds 59 = .ok (.iload 6, 2) := by decide +kernel
theorem dX13_rowOdds_61 : decode cX13_rowOdds 61 = .ok (.invokestatic 288, 3) := by decide +kernel
theorem dX13_rowOdds_64 : decode cX13_rowOdds 64 = .ok (.aload_n 0, 1) := by decide +kernel
theorem dX13_rowOdds_65 : decode cX13_rowOdds 65 = .ok (.iload_n 1, 1) := by decide +kernel
theorem dX13_rowOdds_66 : decode cX13_rowOdds 66 = .ok (.invokevirtual 312, 3) := by decide +kernel
theorem dX13_rowOdds_69 : decode cX13_rowOdds 69 = .ok (.iload_n 3, 1) := by decide +kernel
theorem dX13_rowOdds_70 : decode cX13_rowOdds 70 = .ok (.iload 6, 2) := by decide +kernel
theorem dX13_rowOdds_72 : decode cX13_rowOdds 72 = .ok (.iconst 1, 1) := by decide +kernel
theorem dX13_rowOdds_73 : decode cX13_rowOdds 73 = .ok (.isub, 1) := by decide +kernel
theorem dX13_rowOdds_74 : decode cX13_rowOdds 74 = .ok (.invokestatic 288, 3) := by decide +kernel
theorem dX13_rowOdds_77 : decode cX13_rowOdds 77 = .ok (.if_icmp .ne 14, 3) := by decide +kernel
theorem dX13_rowOdds_80 : decode cX13_rowOdds 80 = .ok (.aload_n 0, 1) := by decide +kernel
theorem dX13_rowOdds_81 : decode cX13_rowOdds 81 = .ok (.getfield 271, 3) := by decide +kernel
theorem dX13_rowOdds_84 : decode cX13_rowOdds 84 = .ok (.getfield 220, 3) := by decide +kernel
theorem dX13_rowOdds_87 : decode cX13_rowOdds 87 = .ok (.i2l, 1) := by decide +kernel
theorem dX13_rowOdds_88 : decode cX13_rowOdds 88 = .ok (.goto 14, 3) := by decide +kernel
theorem dX13_rowOdds_91 : decode cX13_rowOdds 91 = .ok (.bipush 100, 2) := by decide +kernel
theorem dX13_rowOdds_93 : decode cX13_rowOdds 93 = .ok (.aload_n 0, 1) := by decide +kernel
theorem dX13_rowOdds_94 : decode cX13_rowOdds 94 = .ok (.getfield 271, 3) := by decide +kernel
theorem dX13_rowOdds_97 : decode cX13_rowOdds 97 = .ok (.getfield 220, 3) := by decide +kernel
theorem dX13_rowOdds_100 : decode cX13_rowOdds 100 = .ok (.isub, 1) := by decide +kernel
theorem dX13_rowOdds_101 : decode cX13_rowOdds 101 = .ok (.i2l, 1) := by decide +kernel
theorem dX13_rowOdds_102 : decode cX13_rowOdds 102 = .ok (.lmul, 1) := by decide +kernel
theorem dX13_rowOdds_103 : decode cX13_rowOdds 103 = .ok (.lstore 4, 2) := by decide +kernel
theorem dX13_rowOdds_105 : decode cX13_rowOdds 105 = .ok (.iinc 6 1, 3) := by decide +kernel
theorem dX13_rowOdds_108 : decode cX13_rowOdds 108 = .ok (.goto (-63), 3) := by decide +kernel
theorem dX13_rowOdds_111 : decode cX13_rowOdds 111 = .ok (.aload_n 0, 1) := by decide +kernel
theorem dX13_rowOdds_112 : decode cX13_rowOdds 112 = .ok (.lload 4, 2) := by decide +kernel
theorem dX13_rowOdds_114 : decode cX13_rowOdds 114 = .ok (.ldc2_w 427, 3) := by decide +kernel
theorem dX13_rowOdds_117 : decode cX13_rowOdds 117 = .ok (.iload_n 3, 1) := by decide +kernel
theorem dX13_rowOdds_118 : decode cX13_rowOdds 118 = .ok (.iconst 1, 1) := by decide +kernel
theorem dX13_rowOdds_119 : decode cX13_rowOdds 119 = .ok (.isub, 1) := by decide +kernel
theorem dX13_rowOdds_120 : decode cX13_rowOdds 120 = .ok (.invokestatic 423, 3) := by decide +kernel
theorem dX13_rowOdds_123 : decode cX13_rowOdds 123 = .ok (.iload_n 2, 1) := by decide +kernel
theorem dX13_rowOdds_124 : decode cX13_rowOdds 124 = .ok (.invokevirtual 326, 3) := by decide +kernel
theorem dX13_rowOdds_127 : decode cX13_rowOdds 127 = .ok (.lreturn, 1) := by decide +kernel
set_option maxRecDepth 20000 in
theorem ggX13_meanSum_X13_refusesGrowth : GoodIn wsX13_meanSum wsX13_refusesGrowth := goodIn_r _ [9, 3, 10, 11, 8, 12, 37, 38, 39, 40, 41, 42, 43, 44, 45, 46, 47, 48, 49, 50, 51, 52, 53, 54, 55, 56, 57, 58, 59, 60, 61, 62, 63, 64, 65, 66, 67, 68, 69, 70, 71, 72, 73, 74] (by decide +kernel) (by decide +kernel)
set_option maxRecDepth 20000 in
theorem gX13_meanSum_X13_refusesGrowth : GoodIn wsX13_meanSum (wsV RX13 420 RX13 yX13_refusesGrowth wsX13_refusesGrowth) := goodIn_app (goodIn_of _ (by decide +kernel)) ggX13_meanSum_X13_refusesGrowth
set_option maxRecDepth 20000 in
theorem ggX13_meanSum_X13_lost : GoodIn wsX13_meanSum wsX13_lost := goodIn_r _ [16, 17, 18, 19, 8, 20, 21, 22, 37, 38, 39, 40, 41, 42, 43, 44, 45, 46, 47, 48, 49, 50, 51, 52, 53, 54, 55, 56, 57, 58, 59, 60, 61, 62, 63, 64, 65, 66, 67, 68, 69, 70, 71, 72, 73, 74] (by decide +kernel) (by decide +kernel)
set_option maxRecDepth 20000 in
theorem gX13_meanSum_X13_lost : GoodIn wsX13_meanSum (wsV RX13 320 RX13 yX13_lost wsX13_lost) := goodIn_app (goodIn_of _ (by decide +kernel)) ggX13_meanSum_X13_lost
set_option maxRecDepth 20000 in
theorem ggX13_meanSum_X13_power : GoodIn wsX13_meanSum wsX13_power := goodIn_r _ [25] (by decide +kernel) (by decide +kernel)
set_option maxRecDepth 20000 in
theorem gX13_meanSum_X13_power : GoodIn wsX13_meanSum (va_wsS RX13 423 yX13_power wsX13_power) := goodIn_app (goodIn_of _ (by decide +kernel)) ggX13_meanSum_X13_power
set_option maxRecDepth 20000 in
theorem ggX13_meanSum_X13_fraction : GoodIn wsX13_meanSum wsX13_fraction := goodIn_r _ [29, 30, 31, 32, 8, 33, 21, 22, 34, 35, 36, 37, 38, 39, 40, 41, 42, 43, 44, 45, 46, 47, 48, 49, 50, 51, 52, 53, 54, 55, 56, 57, 58, 59, 60, 61, 62, 63, 64, 65, 66, 67, 68, 69, 70, 71, 72, 73, 74] (by decide +kernel) (by decide +kernel)
set_option maxRecDepth 20000 in
theorem gX13_meanSum_X13_fraction : GoodIn wsX13_meanSum (wsV RX13 326 RX13 yX13_fraction wsX13_fraction) := goodIn_app (goodIn_of _ (by decide +kernel)) ggX13_meanSum_X13_fraction
theorem dX13_meanSum_0 : decode cX13_meanSum 0 = .ok (.aload_n 0, 1) := by decide +kernel
theorem dX13_meanSum_1 : decode cX13_meanSum 1 = .ok (.iconst 0, 1) := by decide +kernel
theorem dX13_meanSum_2 : decode cX13_meanSum 2 = .ok (.putfield 49, 3) := by decide +kernel
theorem dX13_meanSum_5 : decode cX13_meanSum 5 = .ok (.aload_n 0, 1) := by decide +kernel
theorem dX13_meanSum_6 : decode cX13_meanSum 6 = .ok (.iload_n 1, 1) := by decide +kernel
theorem dX13_meanSum_7 : decode cX13_meanSum 7 = .ok (.bipush 8, 2) := by decide +kernel
theorem dX13_meanSum_9 : decode cX13_meanSum 9 = .ok (.invokevirtual 420, 3) := by decide +kernel
theorem dX13_meanSum_12 : decode cX13_meanSum 12 = .ok (.istore_n 3, 1) := by decide +kernel
theorem dX13_meanSum_13 : decode cX13_meanSum 13 = .ok (.iload_n 3, 1) := by decide +kernel
theorem dX13_meanSum_14 : decode cX13_meanSum 14 = .ok (.ifCond .le 13, 3) := by decide +kernel
theorem dX13_meanSum_17 : decode cX13_meanSum 17 = .ok (.aload_n 0, 1) := by decide +kernel
theorem dX13_meanSum_18 : decode cX13_meanSum 18 = .ok (.iload_n 3, 1) := by decide +kernel
theorem dX13_meanSum_19 : decode cX13_meanSum 19 = .ok (.ldc_w 333, 3) := by decide +kernel
theorem dX13_meanSum_22 : decode cX13_meanSum 22 = .ok (.invokevirtual 320, 3) := by decide +kernel
theorem dX13_meanSum_25 : decode cX13_meanSum 25 = .ok (.i2l, 1) := by decide +kernel
theorem dX13_meanSum_26 : decode cX13_meanSum 26 = .ok (.lreturn, 1) := by decide +kernel
theorem dX13_meanSum_27 : decode cX13_meanSum 27 = .ok (.lconst 0, 1) := by decide +kernel
theorem dX13_meanSum_28 : decode cX13_meanSum 28 = .ok (.lstore 4, 2) := by decide +kernel
theorem dX13_meanSum_30 : decode cX13_meanSum 30 = .ok (.iconst 0, 1) := by decide +kernel
theorem dX13_meanSum_31 : decode cX13_meanSum 31 = .ok (.istore 6, 2) := by decide +kernel
theorem dX13_meanSum_33 : decode cX13_meanSum 33 = .ok (.iload 6, 2) := by decide +kernel
theorem dX13_meanSum_35 : decode cX13_meanSum 35 = .ok (.iload_n 1, 1) := by decide +kernel
theorem dX13_meanSum_36 : decode cX13_meanSum 36 = .ok (.if_icmp .ge 45, 3) := by decide +kernel
theorem dX13_meanSum_39 : decode cX13_meanSum 39 = .ok (.lload 4, 2) := by decide +kernel
theorem dX13_meanSum_41 : decode cX13_meanSum 41 = .ok (.iconst 2, 1) := by decide +kernel
theorem dX13_meanSum_42 : decode cX13_meanSum 42 = .ok (.aload_n 0, 1) := by decide +kernel
theorem dX13_meanSum_43 : decode cX13_meanSum 43 = .ok (.getfield 271, 3) := by decide +kernel
theorem dX13_meanSum_46 : decode cX13_meanSum 46 = .ok (.getfield 220, 3) := by decide +kernel
theorem dX13_meanSum_49 : decode cX13_meanSum 49 = .ok (.imul, 1) := by decide +kernel
theorem dX13_meanSum_50 : decode cX13_meanSum 50 = .ok (.bipush 100, 2) := by decide +kernel
theorem dX13_meanSum_52 : decode cX13_meanSum 52 = .ok (.isub, 1) := by decide +kernel
theorem dX13_meanSum_53 : decode cX13_meanSum 53 = .ok (.i2l, 1) := by decide +kernel
theorem dX13_meanSum_54 : decode cX13_meanSum 54 = .ok (.iload 6, 2) := by decide +kernel
theorem dX13_meanSum_56 : decode cX13_meanSum 56 = .ok (.invokestatic 423, 3) := by decide +kernel
theorem dX13_meanSum_59 : decode cX13_meanSum 59 = .ok (.ldc2_w 427, 3) := by decide +kernel
theorem dX13_meanSum_62 : decode cX13_meanSum 62 = .ok (.iload_n 1, 1) := by decide +kernel
theorem dX13_meanSum_63 : decode cX13_meanSum 63 = .ok (.iconst 1, 1) := by decide +kernel
theorem dX13_meanSum_64 : decode cX13_meanSum 64 = .ok (.isub, 1) := by decide +kernel
theorem dX13_meanSum_65 : decode cX13_meanSum 65 = .ok (.iload 6, 2) := by decide +kernel
theorem dX13_meanSum_67 : decode cX13_meanSum 67 = .ok (.isub, 1) := by decide +kernel
theorem dX13_meanSum_68 : decode cX13_meanSum 68 = .ok (.invokestatic 423, 3) := by decide +kernel
theorem dX13_meanSum_71 : decode cX13_meanSum 71 = .ok (.lmul, 1) := by decide +kernel
theorem dX13_meanSum_72 : decode cX13_meanSum 72 = .ok (.ladd, 1) := by decide +kernel
theorem dX13_meanSum_73 : decode cX13_meanSum 73 = .ok (.lstore 4, 2) := by decide +kernel
theorem dX13_meanSum_75 : decode cX13_meanSum 75 = .ok (.iinc 6 1, 3) := by decide +kernel
theorem dX13_meanSum_78 : decode cX13_meanSum 78 = .ok (.goto (-45), 3) := by decide +kernel
theorem dX13_meanSum_81 : decode cX13_meanSum 81 = .ok (.aload_n 0, 1) := by decide +kernel
theorem dX13_meanSum_82 : decode cX13_meanSum 82 = .ok (.lload 4, 2) := by decide +kernel
theorem dX13_meanSum_84 : decode cX13_meanSum 84 = .ok (.ldc2_w 427, 3) := by decide +kernel
theorem dX13_meanSum_87 : decode cX13_meanSum 87 = .ok (.iload_n 1, 1) := by decide +kernel
theorem dX13_meanSum_88 : decode cX13_meanSum 88 = .ok (.iconst 1, 1) := by decide +kernel
theorem dX13_meanSum_89 : decode cX13_meanSum 89 = .ok (.isub, 1) := by decide +kernel
theorem dX13_meanSum_90 : decode cX13_meanSum 90 = .ok (.invokestatic 423, 3) := by decide +kernel
theorem dX13_meanSum_93 : decode cX13_meanSum 93 = .ok (.iload_n 2, 1) := by decide +kernel
theorem dX13_meanSum_94 : decode cX13_meanSum 94 = .ok (.invokevirtual 326, 3) := by decide +kernel
theorem dX13_meanSum_97 : decode cX13_meanSum 97 = .ok (.lreturn, 1) := by decide +kernel
theorem dX13_isLike_0 : decode cX13_isLike 0 = .ok (.aload_n 0, 1) := by decide +kernel
theorem dX13_isLike_1 : decode cX13_isLike 1 = .ok (.ldc2_w 429, 3) := by decide +kernel
theorem dX13_isLike_4 : decode cX13_isLike 4 = .ok (.aload_n 0, 1) := by decide +kernel
theorem dX13_isLike_5 : decode cX13_isLike 5 = .ok (.getfield 431, 3) := by decide +kernel
theorem dX13_isLike_8 : decode cX13_isLike 8 = .ok (.i2l, 1) := by decide +kernel
theorem dX13_isLike_9 : decode cX13_isLike 9 = .ok (.lmul, 1) := by decide +kernel
theorem dX13_isLike_10 : decode cX13_isLike 10 = .ok (.ldc2_w 434, 3) := by decide +kernel
theorem dX13_isLike_13 : decode cX13_isLike 13 = .ok (.ladd, 1) := by decide +kernel
theorem dX13_isLike_14 : decode cX13_isLike 14 = .ok (.ldc2_w 436, 3) := by decide +kernel
theorem dX13_isLike_17 : decode cX13_isLike 17 = .ok (.lrem, 1) := by decide +kernel
theorem dX13_isLike_18 : decode cX13_isLike 18 = .ok (.l2i, 1) := by decide +kernel
theorem dX13_isLike_19 : decode cX13_isLike 19 = .ok (.putfield 431, 3) := by decide +kernel
theorem dX13_isLike_22 : decode cX13_isLike 22 = .ok (.aload_n 0, 1) := by decide +kernel
theorem dX13_isLike_23 : decode cX13_isLike 23 = .ok (.getfield 431, 3) := by decide +kernel
theorem dX13_isLike_26 : decode cX13_isLike 26 = .ok (.bipush 100, 2) := by decide +kernel
theorem dX13_isLike_28 : decode cX13_isLike 28 = .ok (.irem, 1) := by decide +kernel
theorem dX13_isLike_29 : decode cX13_isLike 29 = .ok (.aload_n 0, 1) := by decide +kernel
theorem dX13_isLike_30 : decode cX13_isLike 30 = .ok (.getfield 271, 3) := by decide +kernel
theorem dX13_isLike_33 : decode cX13_isLike 33 = .ok (.getfield 220, 3) := by decide +kernel
theorem dX13_isLike_36 : decode cX13_isLike 36 = .ok (.if_icmp .ge 7, 3) := by decide +kernel
theorem dX13_isLike_39 : decode cX13_isLike 39 = .ok (.iconst 1, 1) := by decide +kernel
theorem dX13_isLike_40 : decode cX13_isLike 40 = .ok (.goto 4, 3) := by decide +kernel
theorem dX13_isLike_43 : decode cX13_isLike 43 = .ok (.iconst 0, 1) := by decide +kernel
theorem dX13_isLike_44 : decode cX13_isLike 44 = .ok (.ireturn, 1) := by decide +kernel
set_option maxRecDepth 20000 in
theorem ggX13_grown_X13_refusesGrowth : GoodIn wsX13_grown wsX13_refusesGrowth := goodIn_r _ [8, 9, 10, 11, 7, 12, 30, 31, 32, 33, 34, 35, 36, 37, 38, 39, 40, 41, 42, 43, 44, 45, 46, 47, 48, 49, 50, 51, 52, 53, 54, 55, 56, 57, 58, 59, 60, 61, 62, 63, 64, 65, 66, 67] (by decide +kernel) (by decide +kernel)
set_option maxRecDepth 20000 in
theorem gX13_grown_X13_refusesGrowth : GoodIn wsX13_grown (wsV RX13 420 RX13 yX13_refusesGrowth wsX13_refusesGrowth) := goodIn_app (goodIn_of _ (by decide +kernel)) ggX13_grown_X13_refusesGrowth
set_option maxRecDepth 20000 in
theorem ggX13_grown_X13_in : GoodIn wsX13_grown wsX13_in := goodIn_r _ [12] (by decide +kernel) (by decide +kernel)
set_option maxRecDepth 20000 in
theorem gX13_grown_X13_in : GoodIn wsX13_grown (va_wsS RX13 137 yX13_in wsX13_in) := goodIn_app (goodIn_of _ (by decide +kernel)) ggX13_grown_X13_in
set_option maxRecDepth 20000 in
theorem ggX13_grown_X13_refused : GoodIn wsX13_grown wsX13_refused := goodIn_r _ [16, 17, 18, 30, 31, 32, 33, 34, 35, 36, 37, 38, 39, 40, 41, 42, 43, 44, 45, 46, 47, 48, 49, 50, 51, 52, 53, 54, 55, 56, 57, 58, 59, 60, 61, 62, 63, 64, 65, 66, 67] (by decide +kernel) (by decide +kernel)
set_option maxRecDepth 20000 in
theorem gX13_grown_X13_refused : GoodIn wsX13_grown (wsV RX13 55 RX13 yX13_refused wsX13_refused) := goodIn_app (goodIn_of _ (by decide +kernel)) ggX13_grown_X13_refused
set_option maxRecDepth 20000 in
theorem ggX13_grown_X13_isLike : GoodIn wsX13_grown wsX13_isLike := goodIn_r _ [22, 23, 3, 24, 25, 9, 30, 31, 32, 33, 34, 35, 36, 37, 38, 39, 40, 41, 42, 43, 44, 45, 46, 47, 48, 49, 50, 51, 52, 53, 54, 55, 56, 57, 58, 59, 60, 61, 62, 63, 64, 65, 66, 67, 68, 69, 70, 71, 72, 73, 74, 75, 76, 77, 78, 79, 80, 81, 82, 83] (by decide +kernel) (by decide +kernel)
set_option maxRecDepth 20000 in
theorem gX13_grown_X13_isLike : GoodIn wsX13_grown (wsV RX13 439 RX13 yX13_isLike wsX13_isLike) := goodIn_app (goodIn_of _ (by decide +kernel)) ggX13_grown_X13_isLike
set_option maxRecDepth 20000 in
theorem ggX13_grown_X13_good : GoodIn wsX13_grown wsX13_good := goodIn_r _ [29, 17, 18, 30, 31, 32, 33, 34, 35, 36, 37, 38, 39, 40, 41, 42, 43, 44, 45, 46, 47, 48, 49, 50, 51, 52, 53, 54, 55, 56, 57, 58, 59, 60, 61, 62, 63, 64, 65, 66, 67] (by decide +kernel) (by decide +kernel)
set_option maxRecDepth 20000 in
theorem gX13_grown_X13_good : GoodIn wsX13_grown (wsV RX13 59 RX13 yX13_good wsX13_good) := goodIn_app (goodIn_of _ (by decide +kernel)) ggX13_grown_X13_good
theorem dX13_grown_0 : decode cX13_grown 0 = .ok (.aload_n 0, 1) := by decide +kernel
theorem dX13_grown_1 : decode cX13_grown 1 = .ok (.iconst 0, 1) := by decide +kernel
theorem dX13_grown_2 : decode cX13_grown 2 = .ok (.putfield 49, 3) := by decide +kernel
theorem dX13_grown_5 : decode cX13_grown 5 = .ok (.aload_n 0, 1) := by decide +kernel
theorem dX13_grown_6 : decode cX13_grown 6 = .ok (.iload_n 2, 1) := by decide +kernel
theorem dX13_grown_7 : decode cX13_grown 7 = .ok (.bipush 12, 2) := by decide +kernel
theorem dX13_grown_9 : decode cX13_grown 9 = .ok (.invokevirtual 420, 3) := by decide +kernel
theorem dX13_grown_12 : decode cX13_grown 12 = .ok (.istore_n 3, 1) := by decide +kernel
theorem dX13_grown_13 : decode cX13_grown 13 = .ok (.iload_n 3, 1) := by decide +kernel
theorem dX13_grown_14 : decode cX13_grown 14 = .ok (.ifCond .ne 16, 3) := by decide +kernel
theorem dX13_grown_17 : decode cX13_grown 17 = .ok (.iload_n 1, 1) := by decide +kernel
theorem dX13_grown_18 : decode cX13_grown 18 = .ok (.iconst 0, 1) := by decide +kernel
theorem dX13_grown_19 : decode cX13_grown 19 = .ok (.ldc_w 438, 3) := by decide +kernel
theorem dX13_grown_22 : decode cX13_grown 22 = .ok (.invokestatic 137, 3) := by decide +kernel
theorem dX13_grown_25 : decode cX13_grown 25 = .ok (.ifCond .ne 5, 3) := by decide +kernel
theorem dX13_grown_28 : decode cX13_grown 28 = .ok (.iconst 2, 1) := by decide +kernel
theorem dX13_grown_29 : decode cX13_grown 29 = .ok (.istore_n 3, 1) := by decide +kernel
theorem dX13_grown_30 : decode cX13_grown 30 = .ok (.iload_n 3, 1) := by decide +kernel
theorem dX13_grown_31 : decode cX13_grown 31 = .ok (.ifCond .le 9, 3) := by decide +kernel
theorem dX13_grown_34 : decode cX13_grown 34 = .ok (.aload_n 0, 1) := by decide +kernel
theorem dX13_grown_35 : decode cX13_grown 35 = .ok (.iload_n 3, 1) := by decide +kernel
theorem dX13_grown_36 : decode cX13_grown 36 = .ok (.invokevirtual 55, 3) := by decide +kernel
theorem dX13_grown_39 : decode cX13_grown 39 = .ok (.ireturn, 1) := by decide +kernel
theorem dX13_grown_40 : decode cX13_grown 40 = .ok (.aload_n 0, 1) := by decide +kernel
theorem dX13_grown_41 : decode cX13_grown 41 = .ok (.iload_n 1, 1) := by decide +kernel
theorem dX13_grown_42 : decode cX13_grown 42 = .ok (.putfield 431, 3) := by decide +kernel
theorem dX13_grown_45 : decode cX13_grown 45 = .ok (.iconst 1, 1) := by decide +kernel
theorem dX13_grown_46 : decode cX13_grown 46 = .ok (.istore 4, 2) := by decide +kernel
theorem dX13_grown_48 : decode cX13_grown 48 = .ok (.iconst 1, 1) := by decide +kernel
theorem dX13_grown_49 : decode cX13_grown 49 = .ok (.istore 5, 2) := by decide +kernel
theorem dX13_grown_51 : decode cX13_grown 51 = .ok (.iload 5, 2) := by decide +kernel
theorem dX13_grown_53 : decode cX13_grown 53 = .ok (.iload_n 2, 1) := by decide +kernel
theorem dX13_grown_54 : decode cX13_grown 54 = .ok (.if_icmp .ge 36, 3) := by decide +kernel
theorem dX13_grown_57 : decode cX13_grown 57 = .ok (.iconst 2, 1) := by decide +kernel
theorem dX13_grown_58 : decode cX13_grown 58 = .ok (.iload 4, 2) := by decide +kernel
theorem dX13_grown_60 : decode cX13_grown 60 = .ok (.imul, 1) := by decide +kernel
theorem dX13_grown_61 : decode cX13_grown 61 = .ok (.aload_n 0, 1) := by decide +kernel
theorem dX13_grown_62 : decode cX13_grown 62 = .ok (.invokevirtual 439, 3) := by decide +kernel
theorem dX13_grown_65 : decode cX13_grown 65 = .ok (.ifCond .eq 10, 3) := by decide +kernel
theorem dX13_grown_68 : decode cX13_grown 68 = .ok (.iload 4, 2) := by decide +kernel
theorem dX13_grown_70 : decode cX13_grown 70 = .ok (.iconst 1, 1) := by decide +kernel
theorem dX13_grown_71 : decode cX13_grown 71 = .ok (.iand, 1) := by decide +kernel
theorem dX13_grown_72 : decode cX13_grown 72 = .ok (.goto 9, 3) := by decide +kernel
theorem dX13_grown_75 : decode cX13_grown 75 = .ok (.iconst 1, 1) := by decide +kernel
theorem dX13_grown_76 : decode cX13_grown 76 = .ok (.iload 4, 2) := by decide +kernel
theorem dX13_grown_78 : decode cX13_grown 78 = .ok (.iconst 1, 1) := by decide +kernel
theorem dX13_grown_79 : decode cX13_grown 79 = .ok (.iand, 1) := by decide +kernel
theorem dX13_grown_80 : decode cX13_grown 80 = .ok (.isub, 1) := by decide +kernel
theorem dX13_grown_81 : decode cX13_grown 81 = .ok (.iadd, 1) := by decide +kernel
theorem dX13_grown_82 : decode cX13_grown 82 = .ok (.istore 4, 2) := by decide +kernel
theorem dX13_grown_84 : decode cX13_grown 84 = .ok (.iinc 5 1, 3) := by decide +kernel
theorem dX13_grown_87 : decode cX13_grown 87 = .ok (.goto (-36), 3) := by decide +kernel
theorem dX13_grown_90 : decode cX13_grown 90 = .ok (.aload_n 0, 1) := by decide +kernel
theorem dX13_grown_91 : decode cX13_grown 91 = .ok (.iload 4, 2) := by decide +kernel
theorem dX13_grown_93 : decode cX13_grown 93 = .ok (.invokevirtual 59, 3) := by decide +kernel
theorem dX13_grown_96 : decode cX13_grown 96 = .ok (.ireturn, 1) := by decide +kernel
set_option maxRecDepth 20000 in
theorem ggX13_longestRun_X13_refusesGrowth : GoodIn wsX13_longestRun wsX13_refusesGrowth := goodIn_r _ [8, 9, 10, 11, 7, 12, 30, 31, 32, 33, 34, 35, 36, 37, 38, 39, 40, 41, 42, 43, 44, 45, 46, 47, 48, 49, 50, 51, 52, 53, 54, 55, 56, 57, 58, 59, 60, 61, 62, 63, 64, 65, 66, 67] (by decide +kernel) (by decide +kernel)
set_option maxRecDepth 20000 in
theorem gX13_longestRun_X13_refusesGrowth : GoodIn wsX13_longestRun (wsV RX13 420 RX13 yX13_refusesGrowth wsX13_refusesGrowth) := goodIn_app (goodIn_of _ (by decide +kernel)) ggX13_longestRun_X13_refusesGrowth
set_option maxRecDepth 20000 in
theorem ggX13_longestRun_X13_in : GoodIn wsX13_longestRun wsX13_in := goodIn_r _ [12] (by decide +kernel) (by decide +kernel)
set_option maxRecDepth 20000 in
theorem gX13_longestRun_X13_in : GoodIn wsX13_longestRun (va_wsS RX13 137 yX13_in wsX13_in) := goodIn_app (goodIn_of _ (by decide +kernel)) ggX13_longestRun_X13_in
set_option maxRecDepth 20000 in
theorem ggX13_longestRun_X13_refused : GoodIn wsX13_longestRun wsX13_refused := goodIn_r _ [16, 17, 18, 30, 31, 32, 33, 34, 35, 36, 37, 38, 39, 40, 41, 42, 43, 44, 45, 46, 47, 48, 49, 50, 51, 52, 53, 54, 55, 56, 57, 58, 59, 60, 61, 62, 63, 64, 65, 66, 67] (by decide +kernel) (by decide +kernel)
set_option maxRecDepth 20000 in
theorem gX13_longestRun_X13_refused : GoodIn wsX13_longestRun (wsV RX13 55 RX13 yX13_refused wsX13_refused) := goodIn_app (goodIn_of _ (by decide +kernel)) ggX13_longestRun_X13_refused
set_option maxRecDepth 20000 in
theorem ggX13_longestRun_X13_isLike : GoodIn wsX13_longestRun wsX13_isLike := goodIn_r _ [22, 23, 3, 24, 25, 9, 30, 31, 32, 33, 34, 35, 36, 37, 38, 39, 40, 41, 42, 43, 44, 45, 46, 47, 48, 49, 50, 51, 52, 53, 54, 55, 56, 57, 58, 59, 60, 61, 62, 63, 64, 65, 66, 67, 68, 69, 70, 71, 72, 73, 74, 75, 76, 77, 78, 79, 80, 81, 82, 83] (by decide +kernel) (by decide +kernel)
set_option maxRecDepth 20000 in
theorem gX13_longestRun_X13_isLike : GoodIn wsX13_longestRun (wsV RX13 439 RX13 yX13_isLike wsX13_isLike) := goodIn_app (goodIn_of _ (by decide +kernel)) ggX13_longestRun_X13_isLike
set_option maxRecDepth 20000 in
theorem ggX13_longestRun_X13_good : GoodIn wsX13_longestRun wsX13_good := goodIn_r _ [29, 17, 18, 30, 31, 32, 33, 34, 35, 36, 37, 38, 39, 40, 41, 42, 43, 44, 45, 46, 47, 48, 49, 50, 51, 52, 53, 54, 55, 56, 57, 58, 59, 60, 61, 62, 63, 64, 65, 66, 67] (by decide +kernel) (by decide +kernel)
set_option maxRecDepth 20000 in
theorem gX13_longestRun_X13_good : GoodIn wsX13_longestRun (wsV RX13 59 RX13 yX13_good wsX13_good) := goodIn_app (goodIn_of _ (by decide +kernel)) ggX13_longestRun_X13_good
theorem dX13_longestRun_0 : decode cX13_longestRun 0 = .ok (.aload_n 0, 1) := by decide +kernel
theorem dX13_longestRun_1 : decode cX13_longestRun 1 = .ok (.iconst 0, 1) := by decide +kernel
theorem dX13_longestRun_2 : decode cX13_longestRun 2 = .ok (.putfield 49, 3) := by decide +kernel
theorem dX13_longestRun_5 : decode cX13_longestRun 5 = .ok (.aload_n 0, 1) := by decide +kernel
theorem dX13_longestRun_6 : decode cX13_longestRun 6 = .ok (.iload_n 2, 1) := by decide +kernel
theorem dX13_longestRun_7 : decode cX13_longestRun 7 = .ok (.sipush 200, 3) := by decide +kernel
theorem dX13_longestRun_10 : decode cX13_longestRun 10 = .ok (.invokevirtual 420, 3) := by decide +kernel
theorem dX13_longestRun_13 : decode cX13_longestRun 13 = .ok (.istore_n 3, 1) := by decide +kernel
theorem dX13_longestRun_14 : decode cX13_longestRun 14 = .ok (.iload_n 3, 1) := by decide +kernel
theorem dX13_longestRun_15 : decode cX13_longestRun 15 = .ok (.ifCond .ne 16, 3) := by decide +kernel
theorem dX13_longestRun_18 : decode cX13_longestRun 18 = .ok (.iload_n 1, 1) := by decide +kernel
theorem dX13_longestRun_19 : decode cX13_longestRun 19 = .ok (.iconst 0, 1) := by decide +kernel
theorem dX13_longestRun_20 : decode cX13_longestRun 20 = .ok (.ldc_w 438, 3) := by decide +kernel
theorem dX13_longestRun_23 : decode cX13_longestRun 23 = .ok (.invokestatic 137, 3) := by decide +kernel
theorem dX13_longestRun_26 : decode cX13_longestRun 26 = .ok (.ifCond .ne 5, 3) := by decide +kernel
theorem dX13_longestRun_29 : decode cX13_longestRun 29 = .ok (.iconst 2, 1) := by decide +kernel
theorem dX13_longestRun_30 : decode cX13_longestRun 30 = .ok (.istore_n 3, 1) := by decide +kernel
theorem dX13_longestRun_31 : decode cX13_longestRun 31 = .ok (.iload_n 3, 1) := by decide +kernel
theorem dX13_longestRun_32 : decode cX13_longestRun 32 = .ok (.ifCond .le 9, 3) := by decide +kernel
theorem dX13_longestRun_35 : decode cX13_longestRun 35 = .ok (.aload_n 0, 1) := by decide +kernel
theorem dX13_longestRun_36 : decode cX13_longestRun 36 = .ok (.iload_n 3, 1) := by decide +kernel
theorem dX13_longestRun_37 : decode cX13_longestRun 37 = .ok (.invokevirtual 55, 3) := by decide +kernel
theorem dX13_longestRun_40 : decode cX13_longestRun 40 = .ok (.ireturn, 1) := by decide +kernel
theorem dX13_longestRun_41 : decode cX13_longestRun 41 = .ok (.aload_n 0, 1) := by decide +kernel
theorem dX13_longestRun_42 : decode cX13_longestRun 42 = .ok (.iload_n 1, 1) := by decide +kernel
theorem dX13_longestRun_43 : decode cX13_longestRun 43 = .ok (.putfield 431, 3) := by decide +kernel
theorem dX13_longestRun_46 : decode cX13_longestRun 46 = .ok (.iconst 1, 1) := by decide +kernel
theorem dX13_longestRun_47 : decode cX13_longestRun 47 = .ok (.istore 4, 2) := by decide +kernel
theorem dX13_longestRun_49 : decode cX13_longestRun 49 = .ok (.iconst 1, 1) := by decide +kernel
theorem dX13_longestRun_50 : decode cX13_longestRun 50 = .ok (.istore 5, 2) := by decide +kernel
theorem dX13_longestRun_52 : decode cX13_longestRun 52 = .ok (.iconst 1, 1) := by decide +kernel
theorem dX13_longestRun_53 : decode cX13_longestRun 53 = .ok (.istore 6, 2) := by decide +kernel
theorem dX13_longestRun_55 : decode cX13_longestRun 55 = .ok (.iload 6, 2) := by decide +kernel
theorem dX13_longestRun_57 : decode cX13_longestRun 57 = .ok (.iload_n 2, 1) := by decide +kernel
theorem dX13_longestRun_58 : decode cX13_longestRun 58 = .ok (.if_icmp .ge 37, 3) := by decide +kernel
theorem dX13_longestRun_61 : decode cX13_longestRun 61 = .ok (.aload_n 0, 1) := by decide +kernel
theorem dX13_longestRun_62 : decode cX13_longestRun 62 = .ok (.invokevirtual 439, 3) := by decide +kernel
theorem dX13_longestRun_65 : decode cX13_longestRun 65 = .ok (.ifCond .eq 10, 3) := by decide +kernel
theorem dX13_longestRun_68 : decode cX13_longestRun 68 = .ok (.iload 4, 2) := by decide +kernel
theorem dX13_longestRun_70 : decode cX13_longestRun 70 = .ok (.iconst 1, 1) := by decide +kernel
theorem dX13_longestRun_71 : decode cX13_longestRun 71 = .ok (.iadd, 1) := by decide +kernel
theorem dX13_longestRun_72 : decode cX13_longestRun 72 = .ok (.goto 4, 3) := by decide +kernel
theorem dX13_longestRun_75 : decode cX13_longestRun 75 = .ok (.iconst 1, 1) := by decide +kernel
theorem dX13_longestRun_76 : decode cX13_longestRun 76 = .ok (.istore 4, 2) := by decide +kernel
theorem dX13_longestRun_78 : decode cX13_longestRun 78 = .ok (.iload 4, 2) := by decide +kernel
theorem dX13_longestRun_80 : decode cX13_longestRun 80 = .ok (.iload 5, 2) := by decide +kernel
theorem dX13_longestRun_82 : decode cX13_longestRun 82 = .ok (.if_icmp .le 7, 3) := by decide +kernel
theorem dX13_longestRun_85 : decode cX13_longestRun 85 = .ok (.iload 4, 2) := by decide +kernel
theorem dX13_longestRun_87 : decode cX13_longestRun 87 = .ok (.istore 5, 2) := by decide +kernel
theorem dX13_longestRun_89 : decode cX13_longestRun 89 = .ok (.iinc 6 1, 3) := by decide +kernel
theorem dX13_longestRun_92 : decode cX13_longestRun 92 = .ok (.goto (-37), 3) := by decide +kernel
theorem dX13_longestRun_95 : decode cX13_longestRun 95 = .ok (.aload_n 0, 1) := by decide +kernel
theorem dX13_longestRun_96 : decode cX13_longestRun 96 = .ok (.iload 5, 2) := by decide +kernel
theorem dX13_longestRun_98 : decode cX13_longestRun 98 = .ok (.invokevirtual 59, 3) := by decide +kernel
theorem dX13_longestRun_101 : decode cX13_longestRun 101 = .ok (.ireturn, 1) := by decide +kernel
theorem dX13_remembers_0 : decode cX13_remembers 0 = .ok (.aload_n 0, 1) := by decide +kernel
theorem dX13_remembers_1 : decode cX13_remembers 1 = .ok (.getfield 273, 3) := by decide +kernel
theorem dX13_remembers_4 : decode cX13_remembers 4 = .ok (.bipush 16, 2) := by decide +kernel
theorem dX13_remembers_6 : decode cX13_remembers 6 = .ok (.if_icmp .ne 43, 3) := by decide +kernel
theorem dX13_remembers_9 : decode cX13_remembers 9 = .ok (.iconst 0, 1) := by decide +kernel
theorem dX13_remembers_10 : decode cX13_remembers 10 = .ok (.istore_n 1, 1) := by decide +kernel
theorem dX13_remembers_11 : decode cX13_remembers 11 = .ok (.iload_n 1, 1) := by decide +kernel
theorem dX13_remembers_12 : decode cX13_remembers 12 = .ok (.sipush 150, 3) := by decide +kernel
theorem dX13_remembers_15 : decode cX13_remembers 15 = .ok (.if_icmp .ge 24, 3) := by decide +kernel
theorem dX13_remembers_18 : decode cX13_remembers 18 = .ok (.aload_n 0, 1) := by decide +kernel
theorem dX13_remembers_19 : decode cX13_remembers 19 = .ok (.getfield 21, 3) := by decide +kernel
theorem dX13_remembers_22 : decode cX13_remembers 22 = .ok (.iload_n 1, 1) := by decide +kernel
theorem dX13_remembers_23 : decode cX13_remembers 23 = .ok (.aload_n 0, 1) := by decide +kernel
theorem dX13_remembers_24 : decode cX13_remembers 24 = .ok (.getfield 21, 3) := by decide +kernel
theorem dX13_remembers_27 : decode cX13_remembers 27 = .ok (.iload_n 1, 1) := by decide +kernel
theorem dX13_remembers_28 : decode cX13_remembers 28 = .ok (.bipush 10, 2) := by decide +kernel
theorem dX13_remembers_30 : decode cX13_remembers 30 = .ok (.iadd, 1) := by decide +kernel
theorem dX13_remembers_31 : decode cX13_remembers 31 = .ok (.iaload, 1) := by decide +kernel
theorem dX13_remembers_32 : decode cX13_remembers 32 = .ok (.iastore, 1) := by decide +kernel
theorem dX13_remembers_33 : decode cX13_remembers 33 = .ok (.iinc 1 1, 3) := by decide +kernel
theorem dX13_remembers_36 : decode cX13_remembers 36 = .ok (.goto (-25), 3) := by decide +kernel
theorem dX13_remembers_39 : decode cX13_remembers 39 = .ok (.aload_n 0, 1) := by decide +kernel
theorem dX13_remembers_40 : decode cX13_remembers 40 = .ok (.dup, 1) := by decide +kernel
theorem dX13_remembers_41 : decode cX13_remembers 41 = .ok (.getfield 273, 3) := by decide +kernel
theorem dX13_remembers_44 : decode cX13_remembers 44 = .ok (.iconst 1, 1) := by decide +kernel
theorem dX13_remembers_45 : decode cX13_remembers 45 = .ok (.isub, 1) := by decide +kernel
theorem dX13_remembers_46 : decode cX13_remembers 46 = .ok (.putfield 273, 3) := by decide +kernel
theorem dX13_remembers_49 : decode cX13_remembers 49 = .ok (.iconst 0, 1) := by decide +kernel
theorem dX13_remembers_50 : decode cX13_remembers 50 = .ok (.istore_n 1, 1) := by decide +kernel
theorem dX13_remembers_51 : decode cX13_remembers 51 = .ok (.iload_n 1, 1) := by decide +kernel
theorem dX13_remembers_52 : decode cX13_remembers 52 = .ok (.bipush 10, 2) := by decide +kernel
theorem dX13_remembers_54 : decode cX13_remembers 54 = .ok (.if_icmp .ge 29, 3) := by decide +kernel
theorem dX13_remembers_57 : decode cX13_remembers 57 = .ok (.aload_n 0, 1) := by decide +kernel
theorem dX13_remembers_58 : decode cX13_remembers 58 = .ok (.getfield 21, 3) := by decide +kernel
theorem dX13_remembers_61 : decode cX13_remembers 61 = .ok (.bipush 10, 2) := by decide +kernel
theorem dX13_remembers_63 : decode cX13_remembers 63 = .ok (.aload_n 0, 1) := by decide +kernel
theorem dX13_remembers_64 : decode cX13_remembers 64 = .ok (.getfield 273, 3) := by decide +kernel
theorem dX13_remembers_67 : decode cX13_remembers 67 = .ok (.imul, 1) := by decide +kernel
theorem dX13_remembers_68 : decode cX13_remembers 68 = .ok (.iload_n 1, 1) := by decide +kernel
theorem dX13_remembers_69 : decode cX13_remembers 69 = .ok (.iadd, 1) := by decide +kernel
theorem dX13_remembers_70 : decode cX13_remembers 70 = .ok (.aload_n 0, 1) := by decide +kernel
theorem dX13_remembers_71 : decode cX13_remembers 71 = .ok (.getfield 17, 3) := by decide +kernel
theorem dX13_remembers_74 : decode cX13_remembers 74 = .ok (.iload_n 1, 1) := by decide +kernel
theorem dX13_remembers_75 : decode cX13_remembers 75 = .ok (.iaload, 1) := by decide +kernel
theorem dX13_remembers_76 : decode cX13_remembers 76 = .ok (.iastore, 1) := by decide +kernel
theorem dX13_remembers_77 : decode cX13_remembers 77 = .ok (.iinc 1 1, 3) := by decide +kernel
theorem dX13_remembers_80 : decode cX13_remembers 80 = .ok (.goto (-29), 3) := by decide +kernel
theorem dX13_remembers_83 : decode cX13_remembers 83 = .ok (.aload_n 0, 1) := by decide +kernel
theorem dX13_remembers_84 : decode cX13_remembers 84 = .ok (.dup, 1) := by decide +kernel
theorem dX13_remembers_85 : decode cX13_remembers 85 = .ok (.getfield 273, 3) := by decide +kernel
theorem dX13_remembers_88 : decode cX13_remembers 88 = .ok (.iconst 1, 1) := by decide +kernel
theorem dX13_remembers_89 : decode cX13_remembers 89 = .ok (.iadd, 1) := by decide +kernel
theorem dX13_remembers_90 : decode cX13_remembers 90 = .ok (.putfield 273, 3) := by decide +kernel
theorem dX13_remembers_93 : decode cX13_remembers 93 = .ok (.return_, 1) := by decide +kernel
set_option maxRecDepth 20000 in
theorem ggX13_becomes_X13_remembers : GoodIn wsX13_becomes wsX13_remembers := goodIn_r _ [6, 7, 8, 1, 15, 16, 17, 18, 19, 20, 21, 22, 23, 24, 25, 26, 27, 28, 29, 30, 31, 32, 33, 34, 35, 36, 37, 38, 39, 40, 41, 42, 43, 44, 45, 46, 47, 48, 49, 50, 51, 52] (by decide +kernel) (by decide +kernel)
set_option maxRecDepth 20000 in
theorem gX13_becomes_X13_remembers : GoodIn wsX13_becomes (wsV RX13 442 RX13 yX13_remembers wsX13_remembers) := goodIn_app (goodIn_of _ (by decide +kernel)) ggX13_becomes_X13_remembers
set_option maxRecDepth 20000 in
theorem ggX13_becomes_X13_good : GoodIn wsX13_becomes wsX13_good := goodIn_r _ [12, 13, 14, 15, 16, 17, 18, 19, 20, 21, 22, 23, 24, 25, 26, 27, 28, 29, 30, 31, 32, 33, 34, 35, 36, 37, 38, 39, 40, 41, 42, 43, 44, 45, 46, 47, 48, 49, 50, 51, 52] (by decide +kernel) (by decide +kernel)
set_option maxRecDepth 20000 in
theorem gX13_becomes_X13_good : GoodIn wsX13_becomes (wsV RX13 59 RX13 yX13_good wsX13_good) := goodIn_app (goodIn_of _ (by decide +kernel)) ggX13_becomes_X13_good
theorem dX13_becomes_0 : decode cX13_becomes 0 = .ok (.aload_n 0, 1) := by decide +kernel
theorem dX13_becomes_1 : decode cX13_becomes 1 = .ok (.invokevirtual 442, 3) := by decide +kernel
theorem dX13_becomes_4 : decode cX13_becomes 4 = .ok (.aload_n 0, 1) := by decide +kernel
theorem dX13_becomes_5 : decode cX13_becomes 5 = .ok (.getfield 17, 3) := by decide +kernel
theorem dX13_becomes_8 : decode cX13_becomes 8 = .ok (.iload_n 1, 1) := by decide +kernel
theorem dX13_becomes_9 : decode cX13_becomes 9 = .ok (.iload_n 2, 1) := by decide +kernel
theorem dX13_becomes_10 : decode cX13_becomes 10 = .ok (.iastore, 1) := by decide +kernel
theorem dX13_becomes_11 : decode cX13_becomes 11 = .ok (.aload_n 0, 1) := by decide +kernel
theorem dX13_becomes_12 : decode cX13_becomes 12 = .ok (.getfield 17, 3) := by decide +kernel
theorem dX13_becomes_15 : decode cX13_becomes 15 = .ok (.iconst 5, 1) := by decide +kernel
theorem dX13_becomes_16 : decode cX13_becomes 16 = .ok (.iload_n 1, 1) := by decide +kernel
theorem dX13_becomes_17 : decode cX13_becomes 17 = .ok (.iadd, 1) := by decide +kernel
theorem dX13_becomes_18 : decode cX13_becomes 18 = .ok (.iload_n 3, 1) := by decide +kernel
theorem dX13_becomes_19 : decode cX13_becomes 19 = .ok (.iastore, 1) := by decide +kernel
theorem dX13_becomes_20 : decode cX13_becomes 20 = .ok (.aload_n 0, 1) := by decide +kernel
theorem dX13_becomes_21 : decode cX13_becomes 21 = .ok (.iload_n 3, 1) := by decide +kernel
theorem dX13_becomes_22 : decode cX13_becomes 22 = .ok (.invokevirtual 59, 3) := by decide +kernel
theorem dX13_becomes_25 : decode cX13_becomes 25 = .ok (.ireturn, 1) := by decide +kernel
set_option maxRecDepth 20000 in
theorem ggX13_slip_X13_isStack : GoodIn wsX13_slip wsX13_isStack := goodIn_r _ [6, 7, 43, 44, 45, 46, 47, 48, 49, 50, 51, 52, 53, 54, 55, 56, 57, 58, 59, 60, 61, 62, 63, 64, 65, 66, 67, 68, 69, 70, 71, 72, 73, 74, 75, 76, 77, 78, 79, 80, 81, 82, 83, 84, 85, 86, 87, 88, 89, 90, 91, 92, 93, 94, 95, 96] (by decide +kernel) (by decide +kernel)
set_option maxRecDepth 20000 in
theorem gX13_slip_X13_isStack : GoodIn wsX13_slip (wsV RX13 307 RX13 yX13_isStack wsX13_isStack) := goodIn_app (goodIn_of _ (by decide +kernel)) ggX13_slip_X13_isStack
set_option maxRecDepth 20000 in
theorem ggX13_slip_X13_refused : GoodIn wsX13_slip wsX13_refused := goodIn_r _ [11, 12, 13, 43, 44, 45, 46, 47, 48, 49, 50, 51, 52, 53, 54, 55, 56, 57, 58, 59, 60, 61, 62, 63, 64, 65, 66, 67, 68, 69, 70, 71, 72, 73, 74, 75, 76, 77, 78, 79, 80] (by decide +kernel) (by decide +kernel)
set_option maxRecDepth 20000 in
theorem gX13_slip_X13_refused : GoodIn wsX13_slip (wsV RX13 55 RX13 yX13_refused wsX13_refused) := goodIn_app (goodIn_of _ (by decide +kernel)) ggX13_slip_X13_refused
set_option maxRecDepth 20000 in
theorem ggX13_slip_X13_steps : GoodIn wsX13_slip wsX13_steps := goodIn_r _ [17, 18, 43, 44, 45, 46, 47, 48, 49, 50, 51, 52, 53, 54, 55, 56, 57, 58, 59, 60, 61, 62, 63, 64, 65, 66, 67, 68, 69, 70, 71, 72, 73, 74, 75, 76, 77, 78, 79, 80] (by decide +kernel) (by decide +kernel)
set_option maxRecDepth 20000 in
theorem gX13_slip_X13_steps : GoodIn wsX13_slip (wsV RX13 310 RX13 yX13_steps wsX13_steps) := goodIn_app (goodIn_of _ (by decide +kernel)) ggX13_slip_X13_steps
set_option maxRecDepth 20000 in
theorem ggX13_slip_X13_in : GoodIn wsX13_slip wsX13_in := goodIn_r _ [21] (by decide +kernel) (by decide +kernel)
set_option maxRecDepth 20000 in
theorem gX13_slip_X13_in : GoodIn wsX13_slip (va_wsS RX13 137 yX13_in wsX13_in) := goodIn_app (goodIn_of _ (by decide +kernel)) ggX13_slip_X13_in
set_option maxRecDepth 20000 in
theorem ggX13_slip_X13_row : GoodIn wsX13_slip wsX13_row := goodIn_r _ [25, 18, 43, 44, 45, 46, 47, 48, 49, 50, 51, 52, 53, 54, 55, 56, 57, 58, 59, 60, 61, 62, 63, 64, 65, 66, 67, 68, 69, 70, 71, 72, 73, 74, 75, 76, 77, 78, 79, 80] (by decide +kernel) (by decide +kernel)
set_option maxRecDepth 20000 in
theorem gX13_slip_X13_row : GoodIn wsX13_slip (wsV RX13 312 RX13 yX13_row wsX13_row) := goodIn_app (goodIn_of _ (by decide +kernel)) ggX13_slip_X13_row
set_option maxRecDepth 20000 in
theorem ggX13_slip_X13_slipped : GoodIn wsX13_slip wsX13_slipped := goodIn_r _ [28] (by decide +kernel) (by decide +kernel)
set_option maxRecDepth 20000 in
theorem gX13_slip_X13_slipped : GoodIn wsX13_slip (va_wsS RX13 372 yX13_slipped wsX13_slipped) := goodIn_app (goodIn_of _ (by decide +kernel)) ggX13_slip_X13_slipped
set_option maxRecDepth 20000 in
theorem ggX13_slip_X13_becomes : GoodIn wsX13_slip wsX13_becomes := goodIn_r _ [32, 18, 33, 34, 35, 5, 36, 37, 38, 39, 40, 41, 42, 12, 13, 43, 44, 45, 46, 47, 48, 49, 50, 51, 52, 53, 54, 55, 56, 57, 58, 59, 60, 61, 62, 63, 64, 65, 66, 67, 68, 69, 70, 71, 72, 73, 74, 75, 76, 77, 78, 79, 80] (by decide +kernel) (by decide +kernel)
set_option maxRecDepth 20000 in
theorem gX13_slip_X13_becomes : GoodIn wsX13_slip (wsV RX13 445 RX13 yX13_becomes wsX13_becomes) := goodIn_app (goodIn_of _ (by decide +kernel)) ggX13_slip_X13_becomes
theorem dX13_slip_0 : decode cX13_slip 0 = .ok (.aload_n 0, 1) := by decide +kernel
theorem dX13_slip_1 : decode cX13_slip 1 = .ok (.iconst 0, 1) := by decide +kernel
theorem dX13_slip_2 : decode cX13_slip 2 = .ok (.putfield 49, 3) := by decide +kernel
theorem dX13_slip_5 : decode cX13_slip 5 = .ok (.aload_n 0, 1) := by decide +kernel
theorem dX13_slip_6 : decode cX13_slip 6 = .ok (.iload_n 1, 1) := by decide +kernel
theorem dX13_slip_7 : decode cX13_slip 7 = .ok (.invokevirtual 307, 3) := by decide +kernel
theorem dX13_slip_10 : decode cX13_slip 10 = .ok (.ifCond .ne 9, 3) := by decide +kernel
theorem dX13_slip_13 : decode cX13_slip 13 = .ok (.aload_n 0, 1) := by decide +kernel
theorem dX13_slip_14 : decode cX13_slip 14 = .ok (.iconst 1, 1) := by decide +kernel
theorem dX13_slip_15 : decode cX13_slip 15 = .ok (.invokevirtual 55, 3) := by decide +kernel
theorem dX13_slip_18 : decode cX13_slip 18 = .ok (.ireturn, 1) := by decide +kernel
theorem dX13_slip_19 : decode cX13_slip 19 = .ok (.iload_n 2, 1) := by decide +kernel
theorem dX13_slip_20 : decode cX13_slip 20 = .ok (.iconst 0, 1) := by decide +kernel
theorem dX13_slip_21 : decode cX13_slip 21 = .ok (.aload_n 0, 1) := by decide +kernel
theorem dX13_slip_22 : decode cX13_slip 22 = .ok (.iload_n 1, 1) := by decide +kernel
theorem dX13_slip_23 : decode cX13_slip 23 = .ok (.invokevirtual 310, 3) := by decide +kernel
theorem dX13_slip_26 : decode cX13_slip 26 = .ok (.iconst 1, 1) := by decide +kernel
theorem dX13_slip_27 : decode cX13_slip 27 = .ok (.isub, 1) := by decide +kernel
theorem dX13_slip_28 : decode cX13_slip 28 = .ok (.invokestatic 137, 3) := by decide +kernel
theorem dX13_slip_31 : decode cX13_slip 31 = .ok (.ifCond .ne 9, 3) := by decide +kernel
theorem dX13_slip_34 : decode cX13_slip 34 = .ok (.aload_n 0, 1) := by decide +kernel
theorem dX13_slip_35 : decode cX13_slip 35 = .ok (.iconst 2, 1) := by decide +kernel
theorem dX13_slip_36 : decode cX13_slip 36 = .ok (.invokevirtual 55, 3) := by decide +kernel
theorem dX13_slip_39 : decode cX13_slip 39 = .ok (.ireturn, 1) := by decide +kernel
theorem dX13_slip_40 : decode cX13_slip 40 = .ok (.aload_n 0, 1) := by decide +kernel
theorem dX13_slip_41 : decode cX13_slip 41 = .ok (.iload_n 1, 1) := by decide +kernel
theorem dX13_slip_42 : decode cX13_slip 42 = .ok (.aload_n 0, 1) := by decide +kernel
theorem dX13_slip_43 : decode cX13_slip 43 = .ok (.iload_n 1, 1) := by decide +kernel
theorem dX13_slip_44 : decode cX13_slip 44 = .ok (.invokevirtual 310, 3) := by decide +kernel
theorem dX13_slip_47 : decode cX13_slip 47 = .ok (.aload_n 0, 1) := by decide +kernel
theorem dX13_slip_48 : decode cX13_slip 48 = .ok (.iload_n 1, 1) := by decide +kernel
theorem dX13_slip_49 : decode cX13_slip 49 = .ok (.invokevirtual 312, 3) := by decide +kernel
theorem dX13_slip_52 : decode cX13_slip 52 = .ok (.aload_n 0, 1) := by decide +kernel
theorem dX13_slip_53 : decode cX13_slip 53 = .ok (.iload_n 1, 1) := by decide +kernel
theorem dX13_slip_54 : decode cX13_slip 54 = .ok (.invokevirtual 310, 3) := by decide +kernel
theorem dX13_slip_57 : decode cX13_slip 57 = .ok (.iload_n 2, 1) := by decide +kernel
theorem dX13_slip_58 : decode cX13_slip 58 = .ok (.invokestatic 372, 3) := by decide +kernel
theorem dX13_slip_61 : decode cX13_slip 61 = .ok (.invokevirtual 445, 3) := by decide +kernel
theorem dX13_slip_64 : decode cX13_slip 64 = .ok (.ireturn, 1) := by decide +kernel
set_option maxRecDepth 20000 in
theorem ggX13_turn_X13_isStack : GoodIn wsX13_turn wsX13_isStack := goodIn_r _ [6, 7, 43, 44, 45, 46, 47, 48, 49, 50, 51, 52, 53, 54, 55, 56, 57, 58, 59, 60, 61, 62, 63, 64, 65, 66, 67, 68, 69, 70, 71, 72, 73, 74, 75, 76, 77, 78, 79, 80, 81, 82, 83, 84, 85, 86, 87, 88, 89, 90, 91, 92, 93, 94, 95, 96] (by decide +kernel) (by decide +kernel)
set_option maxRecDepth 20000 in
theorem gX13_turn_X13_isStack : GoodIn wsX13_turn (wsV RX13 307 RX13 yX13_isStack wsX13_isStack) := goodIn_app (goodIn_of _ (by decide +kernel)) ggX13_turn_X13_isStack
set_option maxRecDepth 20000 in
theorem ggX13_turn_X13_steps : GoodIn wsX13_turn wsX13_steps := goodIn_r _ [11, 12, 43, 44, 45, 46, 47, 48, 49, 50, 51, 52, 53, 54, 55, 56, 57, 58, 59, 60, 61, 62, 63, 64, 65, 66, 67, 68, 69, 70, 71, 72, 73, 74, 75, 76, 77, 78, 79, 80] (by decide +kernel) (by decide +kernel)
set_option maxRecDepth 20000 in
theorem gX13_turn_X13_steps : GoodIn wsX13_turn (wsV RX13 310 RX13 yX13_steps wsX13_steps) := goodIn_app (goodIn_of _ (by decide +kernel)) ggX13_turn_X13_steps
set_option maxRecDepth 20000 in
theorem ggX13_turn_X13_row : GoodIn wsX13_turn wsX13_row := goodIn_r _ [16, 12, 43, 44, 45, 46, 47, 48, 49, 50, 51, 52, 53, 54, 55, 56, 57, 58, 59, 60, 61, 62, 63, 64, 65, 66, 67, 68, 69, 70, 71, 72, 73, 74, 75, 76, 77, 78, 79, 80] (by decide +kernel) (by decide +kernel)
set_option maxRecDepth 20000 in
theorem gX13_turn_X13_row : GoodIn wsX13_turn (wsV RX13 312 RX13 yX13_row wsX13_row) := goodIn_app (goodIn_of _ (by decide +kernel)) ggX13_turn_X13_row
set_option maxRecDepth 20000 in
theorem ggX13_turn_X13_turned : GoodIn wsX13_turn wsX13_turned := goodIn_r _ [19, 20, 21, 5, 22] (by decide +kernel) (by decide +kernel)
set_option maxRecDepth 20000 in
theorem gX13_turn_X13_turned : GoodIn wsX13_turn (va_wsS RX13 301 yX13_turned wsX13_turned) := goodIn_app (goodIn_of _ (by decide +kernel)) ggX13_turn_X13_turned
set_option maxRecDepth 20000 in
theorem ggX13_turn_X13_becomes : GoodIn wsX13_turn wsX13_becomes := goodIn_r _ [26, 12, 27, 28, 29, 5, 30, 31, 32, 33, 34, 35, 36, 37, 38, 43, 44, 45, 46, 47, 48, 49, 50, 51, 52, 53, 54, 55, 56, 57, 58, 59, 60, 61, 62, 63, 64, 65, 66, 67, 68, 69, 70, 71, 72, 73, 74, 75, 76, 77, 78, 79, 80] (by decide +kernel) (by decide +kernel)
set_option maxRecDepth 20000 in
theorem gX13_turn_X13_becomes : GoodIn wsX13_turn (wsV RX13 445 RX13 yX13_becomes wsX13_becomes) := goodIn_app (goodIn_of _ (by decide +kernel)) ggX13_turn_X13_becomes
set_option maxRecDepth 20000 in
theorem ggX13_turn_X13_refused : GoodIn wsX13_turn wsX13_refused := goodIn_r _ [42, 37, 38, 43, 44, 45, 46, 47, 48, 49, 50, 51, 52, 53, 54, 55, 56, 57, 58, 59, 60, 61, 62, 63, 64, 65, 66, 67, 68, 69, 70, 71, 72, 73, 74, 75, 76, 77, 78, 79, 80] (by decide +kernel) (by decide +kernel)
set_option maxRecDepth 20000 in
theorem gX13_turn_X13_refused : GoodIn wsX13_turn (wsV RX13 55 RX13 yX13_refused wsX13_refused) := goodIn_app (goodIn_of _ (by decide +kernel)) ggX13_turn_X13_refused
theorem dX13_turn_0 : decode cX13_turn 0 = .ok (.aload_n 0, 1) := by decide +kernel
theorem dX13_turn_1 : decode cX13_turn 1 = .ok (.iconst 0, 1) := by decide +kernel
theorem dX13_turn_2 : decode cX13_turn 2 = .ok (.putfield 49, 3) := by decide +kernel
theorem dX13_turn_5 : decode cX13_turn 5 = .ok (.aload_n 0, 1) := by decide +kernel
theorem dX13_turn_6 : decode cX13_turn 6 = .ok (.iload_n 1, 1) := by decide +kernel
theorem dX13_turn_7 : decode cX13_turn 7 = .ok (.invokevirtual 307, 3) := by decide +kernel
theorem dX13_turn_10 : decode cX13_turn 10 = .ok (.ifCond .eq 29, 3) := by decide +kernel
theorem dX13_turn_13 : decode cX13_turn 13 = .ok (.aload_n 0, 1) := by decide +kernel
theorem dX13_turn_14 : decode cX13_turn 14 = .ok (.iload_n 1, 1) := by decide +kernel
theorem dX13_turn_15 : decode cX13_turn 15 = .ok (.aload_n 0, 1) := by decide +kernel
theorem dX13_turn_16 : decode cX13_turn 16 = .ok (.iload_n 1, 1) := by decide +kernel
theorem dX13_turn_17 : decode cX13_turn 17 = .ok (.invokevirtual 310, 3) := by decide +kernel
theorem dX13_turn_20 : decode cX13_turn 20 = .ok (.aload_n 0, 1) := by decide +kernel
theorem dX13_turn_21 : decode cX13_turn 21 = .ok (.iload_n 1, 1) := by decide +kernel
theorem dX13_turn_22 : decode cX13_turn 22 = .ok (.invokevirtual 312, 3) := by decide +kernel
theorem dX13_turn_25 : decode cX13_turn 25 = .ok (.aload_n 0, 1) := by decide +kernel
theorem dX13_turn_26 : decode cX13_turn 26 = .ok (.iload_n 1, 1) := by decide +kernel
theorem dX13_turn_27 : decode cX13_turn 27 = .ok (.invokevirtual 310, 3) := by decide +kernel
theorem dX13_turn_30 : decode cX13_turn 30 = .ok (.invokestatic 301, 3) := by decide +kernel
theorem dX13_turn_33 : decode cX13_turn 33 = .ok (.invokevirtual 445, 3) := by decide +kernel
theorem dX13_turn_36 : decode cX13_turn 36 = .ok (.goto 8, 3) := by decide +kernel
theorem dX13_turn_39 : decode cX13_turn 39 = .ok (.aload_n 0, 1) := by decide +kernel
theorem dX13_turn_40 : decode cX13_turn 40 = .ok (.iconst 1, 1) := by decide +kernel
theorem dX13_turn_41 : decode cX13_turn 41 = .ok (.invokevirtual 55, 3) := by decide +kernel
theorem dX13_turn_44 : decode cX13_turn 44 = .ok (.ireturn, 1) := by decide +kernel
set_option maxRecDepth 20000 in
theorem ggX13_twin_X13_isStack : GoodIn wsX13_twin wsX13_isStack := goodIn_r _ [6, 7, 40, 41, 42, 43, 44, 45, 46, 47, 48, 49, 50, 51, 52, 53, 54, 55, 56, 57, 58, 59, 60, 61, 62, 63, 64, 65, 66, 67, 68, 69, 70, 71, 72, 73, 74, 75, 76, 77, 78, 79, 80, 81, 82, 83, 84, 85, 86, 87, 88, 89, 90, 91, 92, 93] (by decide +kernel) (by decide +kernel)
set_option maxRecDepth 20000 in
theorem gX13_twin_X13_isStack : GoodIn wsX13_twin (wsV RX13 307 RX13 yX13_isStack wsX13_isStack) := goodIn_app (goodIn_of _ (by decide +kernel)) ggX13_twin_X13_isStack
set_option maxRecDepth 20000 in
theorem ggX13_twin_X13_steps : GoodIn wsX13_twin wsX13_steps := goodIn_r _ [11, 12, 40, 41, 42, 43, 44, 45, 46, 47, 48, 49, 50, 51, 52, 53, 54, 55, 56, 57, 58, 59, 60, 61, 62, 63, 64, 65, 66, 67, 68, 69, 70, 71, 72, 73, 74, 75, 76, 77] (by decide +kernel) (by decide +kernel)
set_option maxRecDepth 20000 in
theorem gX13_twin_X13_steps : GoodIn wsX13_twin (wsV RX13 310 RX13 yX13_steps wsX13_steps) := goodIn_app (goodIn_of _ (by decide +kernel)) ggX13_twin_X13_steps
set_option maxRecDepth 20000 in
theorem ggX13_twin_X13_all : GoodIn wsX13_twin wsX13_all := goodIn_r _ [15] (by decide +kernel) (by decide +kernel)
set_option maxRecDepth 20000 in
theorem gX13_twin_X13_all : GoodIn wsX13_twin (va_wsS RX13 285 yX13_all wsX13_all) := goodIn_app (goodIn_of _ (by decide +kernel)) ggX13_twin_X13_all
set_option maxRecDepth 20000 in
theorem ggX13_twin_X13_row : GoodIn wsX13_twin wsX13_row := goodIn_r _ [19, 12, 40, 41, 42, 43, 44, 45, 46, 47, 48, 49, 50, 51, 52, 53, 54, 55, 56, 57, 58, 59, 60, 61, 62, 63, 64, 65, 66, 67, 68, 69, 70, 71, 72, 73, 74, 75, 76, 77] (by decide +kernel) (by decide +kernel)
set_option maxRecDepth 20000 in
theorem gX13_twin_X13_row : GoodIn wsX13_twin (wsV RX13 312 RX13 yX13_row wsX13_row) := goodIn_app (goodIn_of _ (by decide +kernel)) ggX13_twin_X13_row
set_option maxRecDepth 20000 in
theorem ggX13_twin_X13_becomes : GoodIn wsX13_twin wsX13_becomes := goodIn_r _ [23, 12, 24, 25, 26, 5, 27, 28, 29, 30, 31, 32, 33, 34, 35, 40, 41, 42, 43, 44, 45, 46, 47, 48, 49, 50, 51, 52, 53, 54, 55, 56, 57, 58, 59, 60, 61, 62, 63, 64, 65, 66, 67, 68, 69, 70, 71, 72, 73, 74, 75, 76, 77] (by decide +kernel) (by decide +kernel)
set_option maxRecDepth 20000 in
theorem gX13_twin_X13_becomes : GoodIn wsX13_twin (wsV RX13 445 RX13 yX13_becomes wsX13_becomes) := goodIn_app (goodIn_of _ (by decide +kernel)) ggX13_twin_X13_becomes
set_option maxRecDepth 20000 in
theorem ggX13_twin_X13_refused : GoodIn wsX13_twin wsX13_refused := goodIn_r _ [39, 34, 35, 40, 41, 42, 43, 44, 45, 46, 47, 48, 49, 50, 51, 52, 53, 54, 55, 56, 57, 58, 59, 60, 61, 62, 63, 64, 65, 66, 67, 68, 69, 70, 71, 72, 73, 74, 75, 76, 77] (by decide +kernel) (by decide +kernel)
set_option maxRecDepth 20000 in
theorem gX13_twin_X13_refused : GoodIn wsX13_twin (wsV RX13 55 RX13 yX13_refused wsX13_refused) := goodIn_app (goodIn_of _ (by decide +kernel)) ggX13_twin_X13_refused
theorem dX13_twin_0 : decode cX13_twin 0 = .ok (.aload_n 0, 1) := by decide +kernel
theorem dX13_twin_1 : decode cX13_twin 1 = .ok (.iconst 0, 1) := by decide +kernel
theorem dX13_twin_2 : decode cX13_twin 2 = .ok (.putfield 49, 3) := by decide +kernel
theorem dX13_twin_5 : decode cX13_twin 5 = .ok (.aload_n 0, 1) := by decide +kernel
theorem dX13_twin_6 : decode cX13_twin 6 = .ok (.iload_n 1, 1) := by decide +kernel
theorem dX13_twin_7 : decode cX13_twin 7 = .ok (.invokevirtual 307, 3) := by decide +kernel
theorem dX13_twin_10 : decode cX13_twin 10 = .ok (.ifCond .eq 32, 3) := by decide +kernel
theorem dX13_twin_13 : decode cX13_twin 13 = .ok (.aload_n 0, 1) := by decide +kernel
theorem dX13_twin_14 : decode cX13_twin 14 = .ok (.iload_n 1, 1) := by decide +kernel
theorem dX13_twin_15 : decode cX13_twin 15 = .ok (.aload_n 0, 1) := by decide +kernel
theorem dX13_twin_16 : decode cX13_twin 16 = .ok (.iload_n 1, 1) := by decide +kernel
theorem dX13_twin_17 : decode cX13_twin 17 = .ok (.invokevirtual 310, 3) := by decide +kernel
theorem dX13_twin_20 : decode cX13_twin 20 = .ok (.aload_n 0, 1) := by decide +kernel
theorem dX13_twin_21 : decode cX13_twin 21 = .ok (.iload_n 1, 1) := by decide +kernel
theorem dX13_twin_22 : decode cX13_twin 22 = .ok (.invokevirtual 310, 3) := by decide +kernel
theorem dX13_twin_25 : decode cX13_twin 25 = .ok (.invokestatic 285, 3) := by decide +kernel
theorem dX13_twin_28 : decode cX13_twin 28 = .ok (.aload_n 0, 1) := by decide +kernel
theorem dX13_twin_29 : decode cX13_twin 29 = .ok (.iload_n 1, 1) := by decide +kernel
theorem dX13_twin_30 : decode cX13_twin 30 = .ok (.invokevirtual 312, 3) := by decide +kernel
theorem dX13_twin_33 : decode cX13_twin 33 = .ok (.iconst (-1), 1) := by decide +kernel
theorem dX13_twin_34 : decode cX13_twin 34 = .ok (.ixor, 1) := by decide +kernel
theorem dX13_twin_35 : decode cX13_twin 35 = .ok (.iand, 1) := by decide +kernel
theorem dX13_twin_36 : decode cX13_twin 36 = .ok (.invokevirtual 445, 3) := by decide +kernel
theorem dX13_twin_39 : decode cX13_twin 39 = .ok (.goto 8, 3) := by decide +kernel
theorem dX13_twin_42 : decode cX13_twin 42 = .ok (.aload_n 0, 1) := by decide +kernel
theorem dX13_twin_43 : decode cX13_twin 43 = .ok (.iconst 1, 1) := by decide +kernel
theorem dX13_twin_44 : decode cX13_twin 44 = .ok (.invokevirtual 55, 3) := by decide +kernel
theorem dX13_twin_47 : decode cX13_twin 47 = .ok (.ireturn, 1) := by decide +kernel
set_option maxRecDepth 20000 in
theorem ggX13_grow_X13_isStack : GoodIn wsX13_grow wsX13_isStack := goodIn_r _ [6, 7, 37, 38, 39, 40, 41, 42, 43, 44, 45, 46, 47, 48, 49, 50, 51, 52, 53, 54, 55, 56, 57, 58, 59, 60, 61, 62, 63, 64, 65, 66, 67, 68, 69, 70, 71, 72, 73, 74, 75, 76, 77, 78, 79, 80, 81, 82, 83, 84, 85, 86, 87, 88, 89, 90] (by decide +kernel) (by decide +kernel)
set_option maxRecDepth 20000 in
theorem gX13_grow_X13_isStack : GoodIn wsX13_grow (wsV RX13 307 RX13 yX13_isStack wsX13_isStack) := goodIn_app (goodIn_of _ (by decide +kernel)) ggX13_grow_X13_isStack
set_option maxRecDepth 20000 in
theorem ggX13_grow_X13_refused : GoodIn wsX13_grow wsX13_refused := goodIn_r _ [11, 12, 13, 37, 38, 39, 40, 41, 42, 43, 44, 45, 46, 47, 48, 49, 50, 51, 52, 53, 54, 55, 56, 57, 58, 59, 60, 61, 62, 63, 64, 65, 66, 67, 68, 69, 70, 71, 72, 73, 74] (by decide +kernel) (by decide +kernel)
set_option maxRecDepth 20000 in
theorem gX13_grow_X13_refused : GoodIn wsX13_grow (wsV RX13 55 RX13 yX13_refused wsX13_refused) := goodIn_app (goodIn_of _ (by decide +kernel)) ggX13_grow_X13_refused
set_option maxRecDepth 20000 in
theorem ggX13_grow_X13_steps : GoodIn wsX13_grow wsX13_steps := goodIn_r _ [17, 18, 37, 38, 39, 40, 41, 42, 43, 44, 45, 46, 47, 48, 49, 50, 51, 52, 53, 54, 55, 56, 57, 58, 59, 60, 61, 62, 63, 64, 65, 66, 67, 68, 69, 70, 71, 72, 73, 74] (by decide +kernel) (by decide +kernel)
set_option maxRecDepth 20000 in
theorem gX13_grow_X13_steps : GoodIn wsX13_grow (wsV RX13 310 RX13 yX13_steps wsX13_steps) := goodIn_app (goodIn_of _ (by decide +kernel)) ggX13_grow_X13_steps
set_option maxRecDepth 20000 in
theorem ggX13_grow_X13_row : GoodIn wsX13_grow wsX13_row := goodIn_r _ [22, 18, 37, 38, 39, 40, 41, 42, 43, 44, 45, 46, 47, 48, 49, 50, 51, 52, 53, 54, 55, 56, 57, 58, 59, 60, 61, 62, 63, 64, 65, 66, 67, 68, 69, 70, 71, 72, 73, 74] (by decide +kernel) (by decide +kernel)
set_option maxRecDepth 20000 in
theorem gX13_grow_X13_row : GoodIn wsX13_grow (wsV RX13 312 RX13 yX13_row wsX13_row) := goodIn_app (goodIn_of _ (by decide +kernel)) ggX13_grow_X13_row
set_option maxRecDepth 20000 in
theorem ggX13_grow_X13_becomes : GoodIn wsX13_grow wsX13_becomes := goodIn_r _ [26, 18, 27, 28, 29, 5, 30, 31, 32, 33, 34, 35, 36, 12, 13, 37, 38, 39, 40, 41, 42, 43, 44, 45, 46, 47, 48, 49, 50, 51, 52, 53, 54, 55, 56, 57, 58, 59, 60, 61, 62, 63, 64, 65, 66, 67, 68, 69, 70, 71, 72, 73, 74] (by decide +kernel) (by decide +kernel)
set_option maxRecDepth 20000 in
theorem gX13_grow_X13_becomes : GoodIn wsX13_grow (wsV RX13 445 RX13 yX13_becomes wsX13_becomes) := goodIn_app (goodIn_of _ (by decide +kernel)) ggX13_grow_X13_becomes
set_option maxRecDepth 20000 in
theorem ggX13_grow_X13_good : GoodIn wsX13_grow wsX13_good := goodIn_r _ [36, 12, 13, 37, 38, 39, 40, 41, 42, 43, 44, 45, 46, 47, 48, 49, 50, 51, 52, 53, 54, 55, 56, 57, 58, 59, 60, 61, 62, 63, 64, 65, 66, 67, 68, 69, 70, 71, 72, 73, 74] (by decide +kernel) (by decide +kernel)
set_option maxRecDepth 20000 in
theorem gX13_grow_X13_good : GoodIn wsX13_grow (wsV RX13 59 RX13 yX13_good wsX13_good) := goodIn_app (goodIn_of _ (by decide +kernel)) ggX13_grow_X13_good
theorem dX13_grow_0 : decode cX13_grow 0 = .ok (.aload_n 0, 1) := by decide +kernel
theorem dX13_grow_1 : decode cX13_grow 1 = .ok (.iconst 0, 1) := by decide +kernel
theorem dX13_grow_2 : decode cX13_grow 2 = .ok (.putfield 49, 3) := by decide +kernel
theorem dX13_grow_5 : decode cX13_grow 5 = .ok (.aload_n 0, 1) := by decide +kernel
theorem dX13_grow_6 : decode cX13_grow 6 = .ok (.iload_n 1, 1) := by decide +kernel
theorem dX13_grow_7 : decode cX13_grow 7 = .ok (.invokevirtual 307, 3) := by decide +kernel
theorem dX13_grow_10 : decode cX13_grow 10 = .ok (.ifCond .ne 9, 3) := by decide +kernel
theorem dX13_grow_13 : decode cX13_grow 13 = .ok (.aload_n 0, 1) := by decide +kernel
theorem dX13_grow_14 : decode cX13_grow 14 = .ok (.iconst 1, 1) := by decide +kernel
theorem dX13_grow_15 : decode cX13_grow 15 = .ok (.invokevirtual 55, 3) := by decide +kernel
theorem dX13_grow_18 : decode cX13_grow 18 = .ok (.ireturn, 1) := by decide +kernel
theorem dX13_grow_19 : decode cX13_grow 19 = .ok (.aload_n 0, 1) := by decide +kernel
theorem dX13_grow_20 : decode cX13_grow 20 = .ok (.iload_n 1, 1) := by decide +kernel
theorem dX13_grow_21 : decode cX13_grow 21 = .ok (.invokevirtual 310, 3) := by decide +kernel
theorem dX13_grow_24 : decode cX13_grow 24 = .ok (.bipush 12, 2) := by decide +kernel
theorem dX13_grow_26 : decode cX13_grow 26 = .ok (.if_icmp .ne 9, 3) := by decide +kernel
theorem dX13_grow_29 : decode cX13_grow 29 = .ok (.aload_n 0, 1) := by decide +kernel
theorem dX13_grow_30 : decode cX13_grow 30 = .ok (.iconst 3, 1) := by decide +kernel
theorem dX13_grow_31 : decode cX13_grow 31 = .ok (.invokevirtual 55, 3) := by decide +kernel
theorem dX13_grow_34 : decode cX13_grow 34 = .ok (.ireturn, 1) := by decide +kernel
theorem dX13_grow_35 : decode cX13_grow 35 = .ok (.aload_n 0, 1) := by decide +kernel
theorem dX13_grow_36 : decode cX13_grow 36 = .ok (.iload_n 1, 1) := by decide +kernel
theorem dX13_grow_37 : decode cX13_grow 37 = .ok (.aload_n 0, 1) := by decide +kernel
theorem dX13_grow_38 : decode cX13_grow 38 = .ok (.iload_n 1, 1) := by decide +kernel
theorem dX13_grow_39 : decode cX13_grow 39 = .ok (.invokevirtual 310, 3) := by decide +kernel
theorem dX13_grow_42 : decode cX13_grow 42 = .ok (.iconst 1, 1) := by decide +kernel
theorem dX13_grow_43 : decode cX13_grow 43 = .ok (.iadd, 1) := by decide +kernel
theorem dX13_grow_44 : decode cX13_grow 44 = .ok (.iconst 2, 1) := by decide +kernel
theorem dX13_grow_45 : decode cX13_grow 45 = .ok (.aload_n 0, 1) := by decide +kernel
theorem dX13_grow_46 : decode cX13_grow 46 = .ok (.iload_n 1, 1) := by decide +kernel
theorem dX13_grow_47 : decode cX13_grow 47 = .ok (.invokevirtual 312, 3) := by decide +kernel
theorem dX13_grow_50 : decode cX13_grow 50 = .ok (.imul, 1) := by decide +kernel
theorem dX13_grow_51 : decode cX13_grow 51 = .ok (.iload_n 2, 1) := by decide +kernel
theorem dX13_grow_52 : decode cX13_grow 52 = .ok (.ifCond .eq 7, 3) := by decide +kernel
theorem dX13_grow_55 : decode cX13_grow 55 = .ok (.iconst 1, 1) := by decide +kernel
theorem dX13_grow_56 : decode cX13_grow 56 = .ok (.goto 4, 3) := by decide +kernel
theorem dX13_grow_59 : decode cX13_grow 59 = .ok (.iconst 0, 1) := by decide +kernel
theorem dX13_grow_60 : decode cX13_grow 60 = .ok (.iadd, 1) := by decide +kernel
theorem dX13_grow_61 : decode cX13_grow 61 = .ok (.invokevirtual 445, 3) := by decide +kernel
theorem dX13_grow_64 : decode cX13_grow 64 = .ok (.pop, 1) := by decide +kernel
theorem dX13_grow_65 : decode cX13_grow 65 = .ok (.aload_n 0, 1) := by decide +kernel
theorem dX13_grow_66 : decode cX13_grow 66 = .ok (.aload_n 0, 1) := by decide +kernel
theorem dX13_grow_67 : decode cX13_grow 67 = .ok (.iload_n 1, 1) := by decide +kernel
theorem dX13_grow_68 : decode cX13_grow 68 = .ok (.invokevirtual 310, 3) := by decide +kernel
theorem dX13_grow_71 : decode cX13_grow 71 = .ok (.invokevirtual 59, 3) := by decide +kernel
theorem dX13_grow_74 : decode cX13_grow 74 = .ok (.ireturn, 1) := by decide +kernel
set_option maxRecDepth 20000 in
theorem ggX13_cut_X13_isStack : GoodIn wsX13_cut wsX13_isStack := goodIn_r _ [6, 7, 37, 38, 39, 40, 41, 42, 43, 44, 45, 46, 47, 48, 49, 50, 51, 52, 53, 54, 55, 56, 57, 58, 59, 60, 61, 62, 63, 64, 65, 66, 67, 68, 69, 70, 71, 72, 73, 74, 75, 76, 77, 78, 79, 80, 81, 82, 83, 84, 85, 86, 87, 88, 89, 90] (by decide +kernel) (by decide +kernel)
set_option maxRecDepth 20000 in
theorem gX13_cut_X13_isStack : GoodIn wsX13_cut (wsV RX13 307 RX13 yX13_isStack wsX13_isStack) := goodIn_app (goodIn_of _ (by decide +kernel)) ggX13_cut_X13_isStack
set_option maxRecDepth 20000 in
theorem ggX13_cut_X13_refused : GoodIn wsX13_cut wsX13_refused := goodIn_r _ [11, 12, 13, 37, 38, 39, 40, 41, 42, 43, 44, 45, 46, 47, 48, 49, 50, 51, 52, 53, 54, 55, 56, 57, 58, 59, 60, 61, 62, 63, 64, 65, 66, 67, 68, 69, 70, 71, 72, 73, 74] (by decide +kernel) (by decide +kernel)
set_option maxRecDepth 20000 in
theorem gX13_cut_X13_refused : GoodIn wsX13_cut (wsV RX13 55 RX13 yX13_refused wsX13_refused) := goodIn_app (goodIn_of _ (by decide +kernel)) ggX13_cut_X13_refused
set_option maxRecDepth 20000 in
theorem ggX13_cut_X13_steps : GoodIn wsX13_cut wsX13_steps := goodIn_r _ [17, 18, 37, 38, 39, 40, 41, 42, 43, 44, 45, 46, 47, 48, 49, 50, 51, 52, 53, 54, 55, 56, 57, 58, 59, 60, 61, 62, 63, 64, 65, 66, 67, 68, 69, 70, 71, 72, 73, 74] (by decide +kernel) (by decide +kernel)
set_option maxRecDepth 20000 in
theorem gX13_cut_X13_steps : GoodIn wsX13_cut (wsV RX13 310 RX13 yX13_steps wsX13_steps) := goodIn_app (goodIn_of _ (by decide +kernel)) ggX13_cut_X13_steps
set_option maxRecDepth 20000 in
theorem ggX13_cut_X13_row : GoodIn wsX13_cut wsX13_row := goodIn_r _ [22, 18, 37, 38, 39, 40, 41, 42, 43, 44, 45, 46, 47, 48, 49, 50, 51, 52, 53, 54, 55, 56, 57, 58, 59, 60, 61, 62, 63, 64, 65, 66, 67, 68, 69, 70, 71, 72, 73, 74] (by decide +kernel) (by decide +kernel)
set_option maxRecDepth 20000 in
theorem gX13_cut_X13_row : GoodIn wsX13_cut (wsV RX13 312 RX13 yX13_row wsX13_row) := goodIn_app (goodIn_of _ (by decide +kernel)) ggX13_cut_X13_row
set_option maxRecDepth 20000 in
theorem ggX13_cut_X13_becomes : GoodIn wsX13_cut wsX13_becomes := goodIn_r _ [26, 18, 27, 28, 29, 5, 30, 31, 32, 33, 34, 35, 36, 12, 13, 37, 38, 39, 40, 41, 42, 43, 44, 45, 46, 47, 48, 49, 50, 51, 52, 53, 54, 55, 56, 57, 58, 59, 60, 61, 62, 63, 64, 65, 66, 67, 68, 69, 70, 71, 72, 73, 74] (by decide +kernel) (by decide +kernel)
set_option maxRecDepth 20000 in
theorem gX13_cut_X13_becomes : GoodIn wsX13_cut (wsV RX13 445 RX13 yX13_becomes wsX13_becomes) := goodIn_app (goodIn_of _ (by decide +kernel)) ggX13_cut_X13_becomes
