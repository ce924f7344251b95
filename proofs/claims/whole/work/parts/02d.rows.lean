theorem dX7_isEntry_0 : decode cX7_isEntry 0 = .ok (.lload_n 0, 1) := by decide +kernel
theorem dX7_isEntry_1 : decode cX7_isEntry 1 = .ok (.ldc2_w 68, 3) := by decide +kernel
theorem dX7_isEntry_4 : decode cX7_isEntry 4 = .ok (.ldc2_w 70, 3) := by decide +kernel
theorem dX7_isEntry_7 : decode cX7_isEntry 7 = .ok (.invokestatic 72, 3) := by decide +kernel
theorem dX7_isEntry_10 : decode cX7_isEntry 10 = .ok (.ireturn, 1) := by decide +kernel
set_option maxRecDepth 20000 in
theorem ggX7_becomes_X7_isEntry : GoodIn wsX7_becomes wsX7_isEntry := goodIn_r _ [8, 9, 10, 11, 12, 7, 13] (by decide +kernel) (by decide +kernel)
set_option maxRecDepth 20000 in
theorem gX7_becomes_X7_isEntry : GoodIn wsX7_becomes (va_wsS RX7 136 yX7_isEntry wsX7_isEntry) := goodIn_app (goodIn_of _ (by decide +kernel)) ggX7_becomes_X7_isEntry
theorem dX7_becomes_0 : decode cX7_becomes 0 = .ok (.lload_n 1, 1) := by decide +kernel
theorem dX7_becomes_1 : decode cX7_becomes 1 = .ok (.invokestatic 136, 3) := by decide +kernel
theorem dX7_becomes_4 : decode cX7_becomes 4 = .ok (.ifCond .eq 26, 3) := by decide +kernel
theorem dX7_becomes_7 : decode cX7_becomes 7 = .ok (.lload_n 3, 1) := by decide +kernel
theorem dX7_becomes_8 : decode cX7_becomes 8 = .ok (.invokestatic 136, 3) := by decide +kernel
theorem dX7_becomes_11 : decode cX7_becomes 11 = .ok (.ifCond .eq 19, 3) := by decide +kernel
theorem dX7_becomes_14 : decode cX7_becomes 14 = .ok (.lload 5, 2) := by decide +kernel
theorem dX7_becomes_16 : decode cX7_becomes 16 = .ok (.invokestatic 136, 3) := by decide +kernel
theorem dX7_becomes_19 : decode cX7_becomes 19 = .ok (.ifCond .eq 11, 3) := by decide +kernel
theorem dX7_becomes_22 : decode cX7_becomes 22 = .ok (.lload 7, 2) := by decide +kernel
theorem dX7_becomes_24 : decode cX7_becomes 24 = .ok (.invokestatic 136, 3) := by decide +kernel
theorem dX7_becomes_27 : decode cX7_becomes 27 = .ok (.ifCond .ne 5, 3) := by decide +kernel
theorem dX7_becomes_30 : decode cX7_becomes 30 = .ok (.iconst 0, 1) := by decide +kernel
theorem dX7_becomes_31 : decode cX7_becomes 31 = .ok (.ireturn, 1) := by decide +kernel
theorem dX7_becomes_32 : decode cX7_becomes 32 = .ok (.aload_n 0, 1) := by decide +kernel
theorem dX7_becomes_33 : decode cX7_becomes 33 = .ok (.lload_n 1, 1) := by decide +kernel
theorem dX7_becomes_34 : decode cX7_becomes 34 = .ok (.putfield 23, 3) := by decide +kernel
theorem dX7_becomes_37 : decode cX7_becomes 37 = .ok (.aload_n 0, 1) := by decide +kernel
theorem dX7_becomes_38 : decode cX7_becomes 38 = .ok (.lload_n 3, 1) := by decide +kernel
theorem dX7_becomes_39 : decode cX7_becomes 39 = .ok (.putfield 140, 3) := by decide +kernel
theorem dX7_becomes_42 : decode cX7_becomes 42 = .ok (.aload_n 0, 1) := by decide +kernel
theorem dX7_becomes_43 : decode cX7_becomes 43 = .ok (.lload 5, 2) := by decide +kernel
theorem dX7_becomes_45 : decode cX7_becomes 45 = .ok (.putfield 143, 3) := by decide +kernel
theorem dX7_becomes_48 : decode cX7_becomes 48 = .ok (.aload_n 0, 1) := by decide +kernel
theorem dX7_becomes_49 : decode cX7_becomes 49 = .ok (.lload 7, 2) := by decide +kernel
theorem dX7_becomes_51 : decode cX7_becomes 51 = .ok (.putfield 27, 3) := by decide +kernel
theorem dX7_becomes_54 : decode cX7_becomes 54 = .ok (.iconst 1, 1) := by decide +kernel
theorem dX7_becomes_55 : decode cX7_becomes 55 = .ok (.ireturn, 1) := by decide +kernel
set_option maxRecDepth 20000 in
theorem ggX7_isMatrix_X7_isEntry : GoodIn wsX7_isMatrix wsX7_isEntry := goodIn_r _ [4, 5, 6, 7, 8, 3, 9] (by decide +kernel) (by decide +kernel)
set_option maxRecDepth 20000 in
theorem gX7_isMatrix_X7_isEntry : GoodIn wsX7_isMatrix (va_wsS RX7 136 yX7_isEntry wsX7_isEntry) := goodIn_app (goodIn_of _ (by decide +kernel)) ggX7_isMatrix_X7_isEntry
theorem dX7_isMatrix_0 : decode cX7_isMatrix 0 = .ok (.iload_n 0, 1) := by decide +kernel
theorem dX7_isMatrix_1 : decode cX7_isMatrix 1 = .ok (.i2l, 1) := by decide +kernel
theorem dX7_isMatrix_2 : decode cX7_isMatrix 2 = .ok (.invokestatic 136, 3) := by decide +kernel
theorem dX7_isMatrix_5 : decode cX7_isMatrix 5 = .ok (.ifCond .eq 47, 3) := by decide +kernel
theorem dX7_isMatrix_8 : decode cX7_isMatrix 8 = .ok (.iload_n 1, 1) := by decide +kernel
theorem dX7_isMatrix_9 : decode cX7_isMatrix 9 = .ok (.i2l, 1) := by decide +kernel
theorem dX7_isMatrix_10 : decode cX7_isMatrix 10 = .ok (.invokestatic 136, 3) := by decide +kernel
theorem dX7_isMatrix_13 : decode cX7_isMatrix 13 = .ok (.ifCond .eq 39, 3) := by decide +kernel
theorem dX7_isMatrix_16 : decode cX7_isMatrix 16 = .ok (.iload_n 2, 1) := by decide +kernel
theorem dX7_isMatrix_17 : decode cX7_isMatrix 17 = .ok (.i2l, 1) := by decide +kernel
theorem dX7_isMatrix_18 : decode cX7_isMatrix 18 = .ok (.invokestatic 136, 3) := by decide +kernel
theorem dX7_isMatrix_21 : decode cX7_isMatrix 21 = .ok (.ifCond .eq 31, 3) := by decide +kernel
theorem dX7_isMatrix_24 : decode cX7_isMatrix 24 = .ok (.iload_n 3, 1) := by decide +kernel
theorem dX7_isMatrix_25 : decode cX7_isMatrix 25 = .ok (.i2l, 1) := by decide +kernel
theorem dX7_isMatrix_26 : decode cX7_isMatrix 26 = .ok (.invokestatic 136, 3) := by decide +kernel
theorem dX7_isMatrix_29 : decode cX7_isMatrix 29 = .ok (.ifCond .eq 23, 3) := by decide +kernel
theorem dX7_isMatrix_32 : decode cX7_isMatrix 32 = .ok (.iload_n 0, 1) := by decide +kernel
theorem dX7_isMatrix_33 : decode cX7_isMatrix 33 = .ok (.i2l, 1) := by decide +kernel
theorem dX7_isMatrix_34 : decode cX7_isMatrix 34 = .ok (.iload_n 3, 1) := by decide +kernel
theorem dX7_isMatrix_35 : decode cX7_isMatrix 35 = .ok (.i2l, 1) := by decide +kernel
theorem dX7_isMatrix_36 : decode cX7_isMatrix 36 = .ok (.lmul, 1) := by decide +kernel
theorem dX7_isMatrix_37 : decode cX7_isMatrix 37 = .ok (.iload_n 1, 1) := by decide +kernel
theorem dX7_isMatrix_38 : decode cX7_isMatrix 38 = .ok (.i2l, 1) := by decide +kernel
theorem dX7_isMatrix_39 : decode cX7_isMatrix 39 = .ok (.iload_n 2, 1) := by decide +kernel
theorem dX7_isMatrix_40 : decode cX7_isMatrix 40 = .ok (.i2l, 1) := by decide +kernel
theorem dX7_isMatrix_41 : decode cX7_isMatrix 41 = .ok (.lmul, 1) := by decide +kernel
theorem dX7_isMatrix_42 : decode cX7_isMatrix 42 = .ok (.lsub, 1) := by decide +kernel
theorem dX7_isMatrix_43 : decode cX7_isMatrix 43 = .ok (.lconst 1, 1) := by decide +kernel
theorem dX7_isMatrix_44 : decode cX7_isMatrix 44 = .ok (.lcmp, 1) := by decide +kernel
theorem dX7_isMatrix_45 : decode cX7_isMatrix 45 = .ok (.ifCond .ne 7, 3) := by decide +kernel
theorem dX7_isMatrix_48 : decode cX7_isMatrix 48 = .ok (.iconst 1, 1) := by decide +kernel
theorem dX7_isMatrix_49 : decode cX7_isMatrix 49 = .ok (.goto 4, 3) := by decide +kernel
theorem dX7_isMatrix_52 : decode cX7_isMatrix 52 = .ok (.iconst 0, 1) := by decide +kernel
theorem dX7_isMatrix_53 : decode cX7_isMatrix 53 = .ok (.ireturn, 1) := by decide +kernel
set_option maxRecDepth 20000 in
theorem ggX7_of_X7_isIn : GoodIn wsX7_of wsX7_isIn := goodIn_r _ [10] (by decide +kernel) (by decide +kernel)
set_option maxRecDepth 20000 in
theorem gX7_of_X7_isIn : GoodIn wsX7_of (va_wsS RX7 72 yX7_isIn wsX7_isIn) := goodIn_app (goodIn_of _ (by decide +kernel)) ggX7_of_X7_isIn
theorem dX7_of_0 : decode cX7_of 0 = .ok (.aload_n 0, 1) := by decide +kernel
theorem dX7_of_1 : decode cX7_of 1 = .ok (.iload_n 1, 1) := by decide +kernel
theorem dX7_of_2 : decode cX7_of 2 = .ok (.i2l, 1) := by decide +kernel
theorem dX7_of_3 : decode cX7_of 3 = .ok (.lconst 0, 1) := by decide +kernel
theorem dX7_of_4 : decode cX7_of 4 = .ok (.ldc2_w 57, 3) := by decide +kernel
theorem dX7_of_7 : decode cX7_of 7 = .ok (.invokestatic 72, 3) := by decide +kernel
theorem dX7_of_10 : decode cX7_of 10 = .ok (.ifCond .eq 7, 3) := by decide +kernel
theorem dX7_of_13 : decode cX7_of 13 = .ok (.iconst 0, 1) := by decide +kernel
theorem dX7_of_14 : decode cX7_of 14 = .ok (.goto 4, 3) := by decide +kernel
theorem dX7_of_17 : decode cX7_of 17 = .ok (.iconst 1, 1) := by decide +kernel
theorem dX7_of_18 : decode cX7_of 18 = .ok (.putfield 33, 3) := by decide +kernel
theorem dX7_of_21 : decode cX7_of 21 = .ok (.iload_n 1, 1) := by decide +kernel
theorem dX7_of_22 : decode cX7_of 22 = .ok (.ifCond .ne 10, 3) := by decide +kernel
theorem dX7_of_25 : decode cX7_of 25 = .ok (.aload_n 0, 1) := by decide +kernel
theorem dX7_of_26 : decode cX7_of 26 = .ok (.getfield 23, 3) := by decide +kernel
theorem dX7_of_29 : decode cX7_of 29 = .ok (.goto 40, 3) := by decide +kernel
theorem dX7_of_32 : decode cX7_of 32 = .ok (.iload_n 1, 1) := by decide +kernel
theorem dX7_of_33 : decode cX7_of 33 = .ok (.iconst 1, 1) := by decide +kernel
theorem dX7_of_34 : decode cX7_of 34 = .ok (.if_icmp .ne 10, 3) := by decide +kernel
theorem dX7_of_37 : decode cX7_of 37 = .ok (.aload_n 0, 1) := by decide +kernel
theorem dX7_of_38 : decode cX7_of 38 = .ok (.getfield 140, 3) := by decide +kernel
theorem dX7_of_41 : decode cX7_of 41 = .ok (.goto 28, 3) := by decide +kernel
theorem dX7_of_44 : decode cX7_of 44 = .ok (.iload_n 1, 1) := by decide +kernel
theorem dX7_of_45 : decode cX7_of 45 = .ok (.iconst 2, 1) := by decide +kernel
theorem dX7_of_46 : decode cX7_of 46 = .ok (.if_icmp .ne 10, 3) := by decide +kernel
theorem dX7_of_49 : decode cX7_of 49 = .ok (.aload_n 0, 1) := by decide +kernel
theorem dX7_of_50 : decode cX7_of 50 = .ok (.getfield 143, 3) := by decide +kernel
theorem dX7_of_53 : decode cX7_of 53 = .ok (.goto 16, 3) := by decide +kernel
theorem dX7_of_56 : decode cX7_of 56 = .ok (.iload_n 1, 1) := by decide +kernel
theorem dX7_of_57 : decode cX7_of 57 = .ok (.iconst 3, 1) := by decide +kernel
theorem dX7_of_58 : decode cX7_of 58 = .ok (.if_icmp .ne 10, 3) := by decide +kernel
theorem dX7_of_61 : decode cX7_of 61 = .ok (.aload_n 0, 1) := by decide +kernel
theorem dX7_of_62 : decode cX7_of 62 = .ok (.getfield 27, 3) := by decide +kernel
theorem dX7_of_65 : decode cX7_of 65 = .ok (.goto 4, 3) := by decide +kernel
theorem dX7_of_68 : decode cX7_of 68 = .ok (.lconst 0, 1) := by decide +kernel
theorem dX7_of_69 : decode cX7_of 69 = .ok (.l2i, 1) := by decide +kernel
theorem dX7_of_70 : decode cX7_of 70 = .ok (.ireturn, 1) := by decide +kernel
set_option maxRecDepth 20000 in
theorem ggX7_set_X7_isMatrix : GoodIn wsX7_set wsX7_isMatrix := goodIn_r _ [5, 6, 7, 4, 8, 9, 10, 11, 12, 13] (by decide +kernel) (by decide +kernel)
set_option maxRecDepth 20000 in
theorem gX7_set_X7_isMatrix : GoodIn wsX7_set (va_wsS RX7 146 yX7_isMatrix wsX7_isMatrix) := goodIn_app (goodIn_of _ (by decide +kernel)) ggX7_set_X7_isMatrix
set_option maxRecDepth 20000 in
theorem ggX7_set_X7_becomes : GoodIn wsX7_set wsX7_becomes := goodIn_r _ [17, 18, 19, 20, 21, 6, 7, 4, 8, 9, 10, 11, 12, 13, 22, 23, 24, 25, 26, 27, 28, 29, 30, 31, 32, 33, 34, 35, 36, 37, 38, 39, 40, 41, 42, 43, 44, 45] (by decide +kernel) (by decide +kernel)
set_option maxRecDepth 20000 in
theorem gX7_set_X7_becomes : GoodIn wsX7_set (wsV RX7 150 RX7 yX7_becomes wsX7_becomes) := goodIn_app (goodIn_of _ (by decide +kernel)) ggX7_set_X7_becomes
theorem dX7_set_0 : decode cX7_set 0 = .ok (.aload_n 0, 1) := by decide +kernel
theorem dX7_set_1 : decode cX7_set 1 = .ok (.iconst 0, 1) := by decide +kernel
theorem dX7_set_2 : decode cX7_set 2 = .ok (.putfield 33, 3) := by decide +kernel
theorem dX7_set_5 : decode cX7_set 5 = .ok (.iload_n 1, 1) := by decide +kernel
theorem dX7_set_6 : decode cX7_set 6 = .ok (.iload_n 2, 1) := by decide +kernel
theorem dX7_set_7 : decode cX7_set 7 = .ok (.iload_n 3, 1) := by decide +kernel
theorem dX7_set_8 : decode cX7_set 8 = .ok (.iload 4, 2) := by decide +kernel
theorem dX7_set_10 : decode cX7_set 10 = .ok (.invokestatic 146, 3) := by decide +kernel
theorem dX7_set_13 : decode cX7_set 13 = .ok (.ifCond .eq 23, 3) := by decide +kernel
theorem dX7_set_16 : decode cX7_set 16 = .ok (.aload_n 0, 1) := by decide +kernel
theorem dX7_set_17 : decode cX7_set 17 = .ok (.iload_n 1, 1) := by decide +kernel
theorem dX7_set_18 : decode cX7_set 18 = .ok (.i2l, 1) := by decide +kernel
theorem dX7_set_19 : decode cX7_set 19 = .ok (.iload_n 2, 1) := by decide +kernel
theorem dX7_set_20 : decode cX7_set 20 = .ok (.i2l, 1) := by decide +kernel
theorem dX7_set_21 : decode cX7_set 21 = .ok (.iload_n 3, 1) := by decide +kernel
theorem dX7_set_22 : decode cX7_set 22 = .ok (.i2l, 1) := by decide +kernel
theorem dX7_set_23 : decode cX7_set 23 = .ok (.iload 4, 2) := by decide +kernel
theorem dX7_set_25 : decode cX7_set 25 = .ok (.i2l, 1) := by decide +kernel
theorem dX7_set_26 : decode cX7_set 26 = .ok (.invokevirtual 150, 3) := by decide +kernel
theorem dX7_set_29 : decode cX7_set 29 = .ok (.ifCond .eq 7, 3) := by decide +kernel
theorem dX7_set_32 : decode cX7_set 32 = .ok (.iconst 1, 1) := by decide +kernel
theorem dX7_set_33 : decode cX7_set 33 = .ok (.goto 4, 3) := by decide +kernel
theorem dX7_set_36 : decode cX7_set 36 = .ok (.iconst 0, 1) := by decide +kernel
theorem dX7_set_37 : decode cX7_set 37 = .ok (.ireturn, 1) := by decide +kernel
set_option maxRecDepth 20000 in
theorem ggX7_turn_X7_becomes : GoodIn wsX7_turn wsX7_becomes := goodIn_r _ [10, 3, 2, 5, 4, 11, 12, 9, 13, 14, 15, 16, 17, 18, 19, 20, 21, 22, 23, 24, 25, 26, 27, 28, 29, 30, 31, 32, 33, 34, 35, 36, 37, 38, 39, 40, 41, 42] (by decide +kernel) (by decide +kernel)
set_option maxRecDepth 20000 in
theorem gX7_turn_X7_becomes : GoodIn wsX7_turn (wsV RX7 150 RX7 yX7_becomes wsX7_becomes) := goodIn_app (goodIn_of _ (by decide +kernel)) ggX7_turn_X7_becomes
theorem dX7_turn_0 : decode cX7_turn 0 = .ok (.aload_n 0, 1) := by decide +kernel
theorem dX7_turn_1 : decode cX7_turn 1 = .ok (.iconst 0, 1) := by decide +kernel
theorem dX7_turn_2 : decode cX7_turn 2 = .ok (.putfield 33, 3) := by decide +kernel
theorem dX7_turn_5 : decode cX7_turn 5 = .ok (.aload_n 0, 1) := by decide +kernel
theorem dX7_turn_6 : decode cX7_turn 6 = .ok (.aload_n 0, 1) := by decide +kernel
theorem dX7_turn_7 : decode cX7_turn 7 = .ok (.getfield 140, 3) := by decide +kernel
theorem dX7_turn_10 : decode cX7_turn 10 = .ok (.aload_n 0, 1) := by decide +kernel
theorem dX7_turn_11 : decode cX7_turn 11 = .ok (.getfield 23, 3) := by decide +kernel
theorem dX7_turn_14 : decode cX7_turn 14 = .ok (.lneg, 1) := by decide +kernel
theorem dX7_turn_15 : decode cX7_turn 15 = .ok (.aload_n 0, 1) := by decide +kernel
theorem dX7_turn_16 : decode cX7_turn 16 = .ok (.getfield 27, 3) := by decide +kernel
theorem dX7_turn_19 : decode cX7_turn 19 = .ok (.aload_n 0, 1) := by decide +kernel
theorem dX7_turn_20 : decode cX7_turn 20 = .ok (.getfield 143, 3) := by decide +kernel
theorem dX7_turn_23 : decode cX7_turn 23 = .ok (.lneg, 1) := by decide +kernel
theorem dX7_turn_24 : decode cX7_turn 24 = .ok (.invokevirtual 150, 3) := by decide +kernel
theorem dX7_turn_27 : decode cX7_turn 27 = .ok (.ireturn, 1) := by decide +kernel
set_option maxRecDepth 20000 in
theorem ggX7_shift_X7_becomes : GoodIn wsX7_shift wsX7_becomes := goodIn_r _ [10, 2, 3, 4, 5, 11, 12, 9, 13, 14, 15, 16, 17, 18, 19, 20, 21, 22, 23, 24, 25, 26, 27, 28, 29, 30, 31, 32, 33, 34, 35, 36, 37, 38, 39, 40, 41, 42] (by decide +kernel) (by decide +kernel)
set_option maxRecDepth 20000 in
theorem gX7_shift_X7_becomes : GoodIn wsX7_shift (wsV RX7 150 RX7 yX7_becomes wsX7_becomes) := goodIn_app (goodIn_of _ (by decide +kernel)) ggX7_shift_X7_becomes
theorem dX7_shift_0 : decode cX7_shift 0 = .ok (.aload_n 0, 1) := by decide +kernel
theorem dX7_shift_1 : decode cX7_shift 1 = .ok (.iconst 0, 1) := by decide +kernel
theorem dX7_shift_2 : decode cX7_shift 2 = .ok (.putfield 33, 3) := by decide +kernel
theorem dX7_shift_5 : decode cX7_shift 5 = .ok (.aload_n 0, 1) := by decide +kernel
theorem dX7_shift_6 : decode cX7_shift 6 = .ok (.aload_n 0, 1) := by decide +kernel
theorem dX7_shift_7 : decode cX7_shift 7 = .ok (.getfield 23, 3) := by decide +kernel
theorem dX7_shift_10 : decode cX7_shift 10 = .ok (.aload_n 0, 1) := by decide +kernel
theorem dX7_shift_11 : decode cX7_shift 11 = .ok (.getfield 23, 3) := by decide +kernel
theorem dX7_shift_14 : decode cX7_shift 14 = .ok (.iload_n 1, 1) := by decide +kernel
theorem dX7_shift_15 : decode cX7_shift 15 = .ok (.i2l, 1) := by decide +kernel
theorem dX7_shift_16 : decode cX7_shift 16 = .ok (.lmul, 1) := by decide +kernel
theorem dX7_shift_17 : decode cX7_shift 17 = .ok (.aload_n 0, 1) := by decide +kernel
theorem dX7_shift_18 : decode cX7_shift 18 = .ok (.getfield 140, 3) := by decide +kernel
theorem dX7_shift_21 : decode cX7_shift 21 = .ok (.ladd, 1) := by decide +kernel
theorem dX7_shift_22 : decode cX7_shift 22 = .ok (.aload_n 0, 1) := by decide +kernel
theorem dX7_shift_23 : decode cX7_shift 23 = .ok (.getfield 143, 3) := by decide +kernel
theorem dX7_shift_26 : decode cX7_shift 26 = .ok (.aload_n 0, 1) := by decide +kernel
theorem dX7_shift_27 : decode cX7_shift 27 = .ok (.getfield 143, 3) := by decide +kernel
theorem dX7_shift_30 : decode cX7_shift 30 = .ok (.iload_n 1, 1) := by decide +kernel
theorem dX7_shift_31 : decode cX7_shift 31 = .ok (.i2l, 1) := by decide +kernel
theorem dX7_shift_32 : decode cX7_shift 32 = .ok (.lmul, 1) := by decide +kernel
theorem dX7_shift_33 : decode cX7_shift 33 = .ok (.aload_n 0, 1) := by decide +kernel
theorem dX7_shift_34 : decode cX7_shift 34 = .ok (.getfield 27, 3) := by decide +kernel
theorem dX7_shift_37 : decode cX7_shift 37 = .ok (.ladd, 1) := by decide +kernel
theorem dX7_shift_38 : decode cX7_shift 38 = .ok (.invokevirtual 150, 3) := by decide +kernel
theorem dX7_shift_41 : decode cX7_shift 41 = .ok (.ireturn, 1) := by decide +kernel
set_option maxRecDepth 20000 in
theorem ggX7_times_X7_isMatrix : GoodIn wsX7_times wsX7_isMatrix := goodIn_r _ [9, 10, 11, 8, 12, 13, 14, 15, 16, 17] (by decide +kernel) (by decide +kernel)
set_option maxRecDepth 20000 in
theorem gX7_times_X7_isMatrix : GoodIn wsX7_times (va_wsS RX7 146 yX7_isMatrix wsX7_isMatrix) := goodIn_app (goodIn_of _ (by decide +kernel)) ggX7_times_X7_isMatrix
set_option maxRecDepth 20000 in
theorem ggX7_times_X7_becomes : GoodIn wsX7_times wsX7_becomes := goodIn_r _ [21, 2, 3, 4, 5, 10, 11, 8, 12, 13, 14, 15, 16, 17, 22, 23, 24, 25, 26, 27, 28, 29, 30, 31, 32, 33, 34, 35, 36, 37, 38, 39, 40, 41, 42, 43, 44, 45] (by decide +kernel) (by decide +kernel)
set_option maxRecDepth 20000 in
theorem gX7_times_X7_becomes : GoodIn wsX7_times (wsV RX7 150 RX7 yX7_becomes wsX7_becomes) := goodIn_app (goodIn_of _ (by decide +kernel)) ggX7_times_X7_becomes
theorem dX7_times_0 : decode cX7_times 0 = .ok (.aload_n 0, 1) := by decide +kernel
theorem dX7_times_1 : decode cX7_times 1 = .ok (.iconst 0, 1) := by decide +kernel
theorem dX7_times_2 : decode cX7_times 2 = .ok (.putfield 33, 3) := by decide +kernel
theorem dX7_times_5 : decode cX7_times 5 = .ok (.iload_n 1, 1) := by decide +kernel
theorem dX7_times_6 : decode cX7_times 6 = .ok (.iload_n 2, 1) := by decide +kernel
theorem dX7_times_7 : decode cX7_times 7 = .ok (.iload_n 3, 1) := by decide +kernel
theorem dX7_times_8 : decode cX7_times 8 = .ok (.iload 4, 2) := by decide +kernel
theorem dX7_times_10 : decode cX7_times 10 = .ok (.invokestatic 146, 3) := by decide +kernel
theorem dX7_times_13 : decode cX7_times 13 = .ok (.ifCond .eq 76, 3) := by decide +kernel
theorem dX7_times_16 : decode cX7_times 16 = .ok (.aload_n 0, 1) := by decide +kernel
theorem dX7_times_17 : decode cX7_times 17 = .ok (.aload_n 0, 1) := by decide +kernel
theorem dX7_times_18 : decode cX7_times 18 = .ok (.getfield 23, 3) := by decide +kernel
theorem dX7_times_21 : decode cX7_times 21 = .ok (.iload_n 1, 1) := by decide +kernel
theorem dX7_times_22 : decode cX7_times 22 = .ok (.i2l, 1) := by decide +kernel
theorem dX7_times_23 : decode cX7_times 23 = .ok (.lmul, 1) := by decide +kernel
theorem dX7_times_24 : decode cX7_times 24 = .ok (.aload_n 0, 1) := by decide +kernel
theorem dX7_times_25 : decode cX7_times 25 = .ok (.getfield 140, 3) := by decide +kernel
theorem dX7_times_28 : decode cX7_times 28 = .ok (.iload_n 3, 1) := by decide +kernel
theorem dX7_times_29 : decode cX7_times 29 = .ok (.i2l, 1) := by decide +kernel
theorem dX7_times_30 : decode cX7_times 30 = .ok (.lmul, 1) := by decide +kernel
theorem dX7_times_31 : decode cX7_times 31 = .ok (.ladd, 1) := by decide +kernel
theorem dX7_times_32 : decode cX7_times 32 = .ok (.aload_n 0, 1) := by decide +kernel
theorem dX7_times_33 : decode cX7_times 33 = .ok (.getfield 23, 3) := by decide +kernel
theorem dX7_times_36 : decode cX7_times 36 = .ok (.iload_n 2, 1) := by decide +kernel
theorem dX7_times_37 : decode cX7_times 37 = .ok (.i2l, 1) := by decide +kernel
theorem dX7_times_38 : decode cX7_times 38 = .ok (.lmul, 1) := by decide +kernel
theorem dX7_times_39 : decode cX7_times 39 = .ok (.aload_n 0, 1) := by decide +kernel
theorem dX7_times_40 : decode cX7_times 40 = .ok (.getfield 140, 3) := by decide +kernel
theorem dX7_times_43 : decode cX7_times 43 = .ok (.iload 4, 2) := by decide +kernel
theorem dX7_times_45 : decode cX7_times 45 = .ok (.i2l, 1) := by decide +kernel
theorem dX7_times_46 : decode cX7_times 46 = .ok (.lmul, 1) := by decide +kernel
theorem dX7_times_47 : decode cX7_times 47 = .ok (.ladd, 1) := by decide +kernel
theorem dX7_times_48 : decode cX7_times 48 = .ok (.aload_n 0, 1) := by decide +kernel
theorem dX7_times_49 : decode cX7_times 49 = .ok (.getfield 143, 3) := by decide +kernel
theorem dX7_times_52 : decode cX7_times 52 = .ok (.iload_n 1, 1) := by decide +kernel
theorem dX7_times_53 : decode cX7_times 53 = .ok (.i2l, 1) := by decide +kernel
theorem dX7_times_54 : decode cX7_times 54 = .ok (.lmul, 1) := by decide +kernel
theorem dX7_times_55 : decode cX7_times 55 = .ok (.aload_n 0, 1) := by decide +kernel
theorem dX7_times_56 : decode cX7_times 56 = .ok (.getfield 27, 3) := by decide +kernel
theorem dX7_times_59 : decode cX7_times 59 = .ok (.iload_n 3, 1) := by decide +kernel
theorem dX7_times_60 : decode cX7_times 60 = .ok (.i2l, 1) := by decide +kernel
theorem dX7_times_61 : decode cX7_times 61 = .ok (.lmul, 1) := by decide +kernel
theorem dX7_times_62 : decode cX7_times 62 = .ok (.ladd, 1) := by decide +kernel
theorem dX7_times_63 : decode cX7_times 63 = .ok (.aload_n 0, 1) := by decide +kernel
theorem dX7_times_64 : decode cX7_times 64 = .ok (.getfield 143, 3) := by decide +kernel
theorem dX7_times_67 : decode cX7_times 67 = .ok (.iload_n 2, 1) := by decide +kernel
theorem dX7_times_68 : decode cX7_times 68 = .ok (.i2l, 1) := by decide +kernel
theorem dX7_times_69 : decode cX7_times 69 = .ok (.lmul, 1) := by decide +kernel
theorem dX7_times_70 : decode cX7_times 70 = .ok (.aload_n 0, 1) := by decide +kernel
theorem dX7_times_71 : decode cX7_times 71 = .ok (.getfield 27, 3) := by decide +kernel
theorem dX7_times_74 : decode cX7_times 74 = .ok (.iload 4, 2) := by decide +kernel
theorem dX7_times_76 : decode cX7_times 76 = .ok (.i2l, 1) := by decide +kernel
theorem dX7_times_77 : decode cX7_times 77 = .ok (.lmul, 1) := by decide +kernel
theorem dX7_times_78 : decode cX7_times 78 = .ok (.ladd, 1) := by decide +kernel
theorem dX7_times_79 : decode cX7_times 79 = .ok (.invokevirtual 150, 3) := by decide +kernel
theorem dX7_times_82 : decode cX7_times 82 = .ok (.ifCond .eq 7, 3) := by decide +kernel
theorem dX7_times_85 : decode cX7_times 85 = .ok (.iconst 1, 1) := by decide +kernel
theorem dX7_times_86 : decode cX7_times 86 = .ok (.goto 4, 3) := by decide +kernel
theorem dX7_times_89 : decode cX7_times 89 = .ok (.iconst 0, 1) := by decide +kernel
theorem dX7_times_90 : decode cX7_times 90 = .ok (.ireturn, 1) := by decide +kernel
set_option maxRecDepth 20000 in
theorem ggX7_invert_X7_becomes : GoodIn wsX7_invert wsX7_becomes := goodIn_r _ [10, 5, 3, 4, 2, 11, 12, 9, 13, 14, 15, 16, 17, 18, 19, 20, 21, 22, 23, 24, 25, 26, 27, 28, 29, 30, 31, 32, 33, 34, 35, 36, 37, 38, 39, 40, 41, 42] (by decide +kernel) (by decide +kernel)
set_option maxRecDepth 20000 in
theorem gX7_invert_X7_becomes : GoodIn wsX7_invert (wsV RX7 150 RX7 yX7_becomes wsX7_becomes) := goodIn_app (goodIn_of _ (by decide +kernel)) ggX7_invert_X7_becomes
theorem dX7_invert_0 : decode cX7_invert 0 = .ok (.aload_n 0, 1) := by decide +kernel
theorem dX7_invert_1 : decode cX7_invert 1 = .ok (.iconst 0, 1) := by decide +kernel
theorem dX7_invert_2 : decode cX7_invert 2 = .ok (.putfield 33, 3) := by decide +kernel
theorem dX7_invert_5 : decode cX7_invert 5 = .ok (.aload_n 0, 1) := by decide +kernel
theorem dX7_invert_6 : decode cX7_invert 6 = .ok (.aload_n 0, 1) := by decide +kernel
theorem dX7_invert_7 : decode cX7_invert 7 = .ok (.getfield 27, 3) := by decide +kernel
theorem dX7_invert_10 : decode cX7_invert 10 = .ok (.aload_n 0, 1) := by decide +kernel
theorem dX7_invert_11 : decode cX7_invert 11 = .ok (.getfield 140, 3) := by decide +kernel
theorem dX7_invert_14 : decode cX7_invert 14 = .ok (.lneg, 1) := by decide +kernel
theorem dX7_invert_15 : decode cX7_invert 15 = .ok (.aload_n 0, 1) := by decide +kernel
theorem dX7_invert_16 : decode cX7_invert 16 = .ok (.getfield 143, 3) := by decide +kernel
theorem dX7_invert_19 : decode cX7_invert 19 = .ok (.lneg, 1) := by decide +kernel
theorem dX7_invert_20 : decode cX7_invert 20 = .ok (.aload_n 0, 1) := by decide +kernel
theorem dX7_invert_21 : decode cX7_invert 21 = .ok (.getfield 23, 3) := by decide +kernel
theorem dX7_invert_24 : decode cX7_invert 24 = .ok (.invokevirtual 150, 3) := by decide +kernel
theorem dX7_invert_27 : decode cX7_invert 27 = .ok (.ireturn, 1) := by decide +kernel
set_option maxRecDepth 20000 in
theorem ggX7_phi_X7_size : GoodIn wsX7_phi wsX7_size := goodIn_r _ [8] (by decide +kernel) (by decide +kernel)
set_option maxRecDepth 20000 in
theorem gX7_phi_X7_size : GoodIn wsX7_phi (va_wsS RX7 37 yX7_size wsX7_size) := goodIn_app (goodIn_of _ (by decide +kernel)) ggX7_phi_X7_size
set_option maxRecDepth 20000 in
theorem ggX7_phi_X7_twelve : GoodIn wsX7_phi wsX7_twelve := goodIn_r _ [11, 12, 13, 14, 7, 15, 16, 17, 18] (by decide +kernel) (by decide +kernel)
set_option maxRecDepth 20000 in
theorem gX7_phi_X7_twelve : GoodIn wsX7_phi (va_wsS RX7 59 yX7_twelve wsX7_twelve) := goodIn_app (goodIn_of _ (by decide +kernel)) ggX7_phi_X7_twelve
theorem dX7_phi_0 : decode cX7_phi 0 = .ok (.aload_n 0, 1) := by decide +kernel
theorem dX7_phi_1 : decode cX7_phi 1 = .ok (.getfield 143, 3) := by decide +kernel
theorem dX7_phi_4 : decode cX7_phi 4 = .ok (.lconst 0, 1) := by decide +kernel
theorem dX7_phi_5 : decode cX7_phi 5 = .ok (.lcmp, 1) := by decide +kernel
theorem dX7_phi_6 : decode cX7_phi 6 = .ok (.ifCond .ne 15, 3) := by decide +kernel
theorem dX7_phi_9 : decode cX7_phi 9 = .ok (.aload_n 0, 1) := by decide +kernel
theorem dX7_phi_10 : decode cX7_phi 10 = .ok (.getfield 140, 3) := by decide +kernel
theorem dX7_phi_13 : decode cX7_phi 13 = .ok (.aload_n 0, 1) := by decide +kernel
theorem dX7_phi_14 : decode cX7_phi 14 = .ok (.getfield 27, 3) := by decide +kernel
theorem dX7_phi_17 : decode cX7_phi 17 = .ok (.lmul, 1) := by decide +kernel
theorem dX7_phi_18 : decode cX7_phi 18 = .ok (.goto 32, 3) := by decide +kernel
theorem dX7_phi_21 : decode cX7_phi 21 = .ok (.aload_n 0, 1) := by decide +kernel
theorem dX7_phi_22 : decode cX7_phi 22 = .ok (.getfield 23, 3) := by decide +kernel
theorem dX7_phi_25 : decode cX7_phi 25 = .ok (.aload_n 0, 1) := by decide +kernel
theorem dX7_phi_26 : decode cX7_phi 26 = .ok (.getfield 27, 3) := by decide +kernel
theorem dX7_phi_29 : decode cX7_phi 29 = .ok (.ladd, 1) := by decide +kernel
theorem dX7_phi_30 : decode cX7_phi 30 = .ok (.aload_n 0, 1) := by decide +kernel
theorem dX7_phi_31 : decode cX7_phi 31 = .ok (.getfield 27, 3) := by decide +kernel
theorem dX7_phi_34 : decode cX7_phi 34 = .ok (.aload_n 0, 1) := by decide +kernel
theorem dX7_phi_35 : decode cX7_phi 35 = .ok (.getfield 143, 3) := by decide +kernel
theorem dX7_phi_38 : decode cX7_phi 38 = .ok (.invokestatic 37, 3) := by decide +kernel
theorem dX7_phi_41 : decode cX7_phi 41 = .ok (.invokestatic 59, 3) := by decide +kernel
theorem dX7_phi_44 : decode cX7_phi 44 = .ok (.lsub, 1) := by decide +kernel
theorem dX7_phi_45 : decode cX7_phi 45 = .ok (.aload_n 0, 1) := by decide +kernel
theorem dX7_phi_46 : decode cX7_phi 46 = .ok (.getfield 143, 3) := by decide +kernel
theorem dX7_phi_49 : decode cX7_phi 49 = .ok (.ldiv, 1) := by decide +kernel
theorem dX7_phi_50 : decode cX7_phi 50 = .ok (.lreturn, 1) := by decide +kernel
theorem dX7_signOf_0 : decode cX7_signOf 0 = .ok (.lload_n 0, 1) := by decide +kernel
theorem dX7_signOf_1 : decode cX7_signOf 1 = .ok (.lconst 0, 1) := by decide +kernel
theorem dX7_signOf_2 : decode cX7_signOf 2 = .ok (.lcmp, 1) := by decide +kernel
theorem dX7_signOf_3 : decode cX7_signOf 3 = .ok (.ifCond .le 7, 3) := by decide +kernel
theorem dX7_signOf_6 : decode cX7_signOf 6 = .ok (.lconst 1, 1) := by decide +kernel
theorem dX7_signOf_7 : decode cX7_signOf 7 = .ok (.goto 16, 3) := by decide +kernel
theorem dX7_signOf_10 : decode cX7_signOf 10 = .ok (.lload_n 0, 1) := by decide +kernel
theorem dX7_signOf_11 : decode cX7_signOf 11 = .ok (.lconst 0, 1) := by decide +kernel
theorem dX7_signOf_12 : decode cX7_signOf 12 = .ok (.lcmp, 1) := by decide +kernel
theorem dX7_signOf_13 : decode cX7_signOf 13 = .ok (.ifCond .ge 9, 3) := by decide +kernel
theorem dX7_signOf_16 : decode cX7_signOf 16 = .ok (.ldc2_w 154, 3) := by decide +kernel
theorem dX7_signOf_19 : decode cX7_signOf 19 = .ok (.goto 4, 3) := by decide +kernel
theorem dX7_signOf_22 : decode cX7_signOf 22 = .ok (.lconst 0, 1) := by decide +kernel
theorem dX7_signOf_23 : decode cX7_signOf 23 = .ok (.lreturn, 1) := by decide +kernel
set_option maxRecDepth 20000 in
theorem ggX7_phi__X7_phi : GoodIn wsX7_phi_ wsX7_phi := goodIn_r _ [11, 3, 12, 5, 4, 13, 14, 10, 15, 16, 17, 18, 2, 19, 20, 21, 22, 23, 24, 29, 30, 31, 32, 33, 34, 35, 36, 37, 38, 39, 40, 41, 42, 43, 44, 45, 46, 47, 48, 49, 50, 51, 52] (by decide +kernel) (by decide +kernel)
set_option maxRecDepth 20000 in
theorem gX7_phi__X7_phi : GoodIn wsX7_phi_ (wsV RX7 156 RX7 yX7_phi wsX7_phi) := goodIn_app (goodIn_of _ (by decide +kernel)) ggX7_phi__X7_phi
set_option maxRecDepth 20000 in
theorem ggX7_phi__X7_signOf : GoodIn wsX7_phi_ wsX7_signOf := goodIn_r _ [27, 28] (by decide +kernel) (by decide +kernel)
set_option maxRecDepth 20000 in
theorem gX7_phi__X7_signOf : GoodIn wsX7_phi_ (va_wsS RX7 160 yX7_signOf wsX7_signOf) := goodIn_app (goodIn_of _ (by decide +kernel)) ggX7_phi__X7_signOf
theorem dX7_phi__0 : decode cX7_phi_ 0 = .ok (.aload_n 0, 1) := by decide +kernel
theorem dX7_phi__1 : decode cX7_phi_ 1 = .ok (.iconst 0, 1) := by decide +kernel
theorem dX7_phi__2 : decode cX7_phi_ 2 = .ok (.putfield 33, 3) := by decide +kernel
theorem dX7_phi__5 : decode cX7_phi_ 5 = .ok (.iload_n 1, 1) := by decide +kernel
theorem dX7_phi__6 : decode cX7_phi_ 6 = .ok (.ifCond .ne 10, 3) := by decide +kernel
theorem dX7_phi__9 : decode cX7_phi_ 9 = .ok (.aload_n 0, 1) := by decide +kernel
theorem dX7_phi__10 : decode cX7_phi_ 10 = .ok (.invokevirtual 156, 3) := by decide +kernel
theorem dX7_phi__13 : decode cX7_phi_ 13 = .ok (.goto 43, 3) := by decide +kernel
theorem dX7_phi__16 : decode cX7_phi_ 16 = .ok (.iload_n 1, 1) := by decide +kernel
theorem dX7_phi__17 : decode cX7_phi_ 17 = .ok (.iconst 1, 1) := by decide +kernel
theorem dX7_phi__18 : decode cX7_phi_ 18 = .ok (.if_icmp .ne 35, 3) := by decide +kernel
theorem dX7_phi__21 : decode cX7_phi_ 21 = .ok (.aload_n 0, 1) := by decide +kernel
theorem dX7_phi__22 : decode cX7_phi_ 22 = .ok (.invokevirtual 156, 3) := by decide +kernel
theorem dX7_phi__25 : decode cX7_phi_ 25 = .ok (.ldc2_w 57, 3) := by decide +kernel
theorem dX7_phi__28 : decode cX7_phi_ 28 = .ok (.aload_n 0, 1) := by decide +kernel
theorem dX7_phi__29 : decode cX7_phi_ 29 = .ok (.getfield 143, 3) := by decide +kernel
theorem dX7_phi__32 : decode cX7_phi_ 32 = .ok (.invokestatic 160, 3) := by decide +kernel
theorem dX7_phi__35 : decode cX7_phi_ 35 = .ok (.lmul, 1) := by decide +kernel
theorem dX7_phi__36 : decode cX7_phi_ 36 = .ok (.aload_n 0, 1) := by decide +kernel
theorem dX7_phi__37 : decode cX7_phi_ 37 = .ok (.getfield 23, 3) := by decide +kernel
theorem dX7_phi__40 : decode cX7_phi_ 40 = .ok (.aload_n 0, 1) := by decide +kernel
theorem dX7_phi__41 : decode cX7_phi_ 41 = .ok (.getfield 27, 3) := by decide +kernel
theorem dX7_phi__44 : decode cX7_phi_ 44 = .ok (.ladd, 1) := by decide +kernel
theorem dX7_phi__45 : decode cX7_phi_ 45 = .ok (.invokestatic 160, 3) := by decide +kernel
theorem dX7_phi__48 : decode cX7_phi_ 48 = .ok (.lmul, 1) := by decide +kernel
theorem dX7_phi__49 : decode cX7_phi_ 49 = .ok (.lsub, 1) := by decide +kernel
theorem dX7_phi__50 : decode cX7_phi_ 50 = .ok (.goto 6, 3) := by decide +kernel
theorem dX7_phi__53 : decode cX7_phi_ 53 = .ok (.ldc2_w 76, 3) := by decide +kernel
theorem dX7_phi__56 : decode cX7_phi_ 56 = .ok (.lreturn, 1) := by decide +kernel
set_option maxRecDepth 20000 in
theorem ggX7_kind_X7_size : GoodIn wsX7_kind wsX7_size := goodIn_r _ [8] (by decide +kernel) (by decide +kernel)
set_option maxRecDepth 20000 in
theorem gX7_kind_X7_size : GoodIn wsX7_kind (va_wsS RX7 37 yX7_size wsX7_size) := goodIn_app (goodIn_of _ (by decide +kernel)) ggX7_kind_X7_size
theorem dX7_kind_0 : decode cX7_kind 0 = .ok (.aload_n 0, 1) := by decide +kernel
theorem dX7_kind_1 : decode cX7_kind 1 = .ok (.iconst 0, 1) := by decide +kernel
theorem dX7_kind_2 : decode cX7_kind 2 = .ok (.putfield 33, 3) := by decide +kernel
theorem dX7_kind_5 : decode cX7_kind 5 = .ok (.aload_n 0, 1) := by decide +kernel
theorem dX7_kind_6 : decode cX7_kind 6 = .ok (.getfield 23, 3) := by decide +kernel
theorem dX7_kind_9 : decode cX7_kind 9 = .ok (.aload_n 0, 1) := by decide +kernel
theorem dX7_kind_10 : decode cX7_kind 10 = .ok (.getfield 27, 3) := by decide +kernel
theorem dX7_kind_13 : decode cX7_kind 13 = .ok (.ladd, 1) := by decide +kernel
theorem dX7_kind_14 : decode cX7_kind 14 = .ok (.invokestatic 37, 3) := by decide +kernel
theorem dX7_kind_17 : decode cX7_kind 17 = .ok (.lstore_n 1, 1) := by decide +kernel
theorem dX7_kind_18 : decode cX7_kind 18 = .ok (.lload_n 1, 1) := by decide +kernel
theorem dX7_kind_19 : decode cX7_kind 19 = .ok (.ldc2_w 85, 3) := by decide +kernel
theorem dX7_kind_22 : decode cX7_kind 22 = .ok (.lcmp, 1) := by decide +kernel
theorem dX7_kind_23 : decode cX7_kind 23 = .ok (.ifCond .ge 7, 3) := by decide +kernel
theorem dX7_kind_26 : decode cX7_kind 26 = .ok (.iconst 0, 1) := by decide +kernel
theorem dX7_kind_27 : decode cX7_kind 27 = .ok (.goto 16, 3) := by decide +kernel
theorem dX7_kind_30 : decode cX7_kind 30 = .ok (.lload_n 1, 1) := by decide +kernel
theorem dX7_kind_31 : decode cX7_kind 31 = .ok (.ldc2_w 85, 3) := by decide +kernel
theorem dX7_kind_34 : decode cX7_kind 34 = .ok (.lcmp, 1) := by decide +kernel
theorem dX7_kind_35 : decode cX7_kind 35 = .ok (.ifCond .ne 7, 3) := by decide +kernel
theorem dX7_kind_38 : decode cX7_kind 38 = .ok (.iconst 1, 1) := by decide +kernel
theorem dX7_kind_39 : decode cX7_kind 39 = .ok (.goto 4, 3) := by decide +kernel
theorem dX7_kind_42 : decode cX7_kind 42 = .ok (.iconst 2, 1) := by decide +kernel
theorem dX7_kind_43 : decode cX7_kind 43 = .ok (.ireturn, 1) := by decide +kernel
set_option maxRecDepth 20000 in
theorem ggX7_order_X7_size : GoodIn wsX7_order wsX7_size := goodIn_r _ [11] (by decide +kernel) (by decide +kernel)
set_option maxRecDepth 20000 in
theorem gX7_order_X7_size : GoodIn wsX7_order (va_wsS RX7 37 yX7_size wsX7_size) := goodIn_app (goodIn_of _ (by decide +kernel)) ggX7_order_X7_size
theorem dX7_order_0 : decode cX7_order 0 = .ok (.aload_n 0, 1) := by decide +kernel
theorem dX7_order_1 : decode cX7_order 1 = .ok (.iconst 0, 1) := by decide +kernel
theorem dX7_order_2 : decode cX7_order 2 = .ok (.putfield 33, 3) := by decide +kernel
theorem dX7_order_5 : decode cX7_order 5 = .ok (.aload_n 0, 1) := by decide +kernel
theorem dX7_order_6 : decode cX7_order 6 = .ok (.getfield 23, 3) := by decide +kernel
theorem dX7_order_9 : decode cX7_order 9 = .ok (.aload_n 0, 1) := by decide +kernel
theorem dX7_order_10 : decode cX7_order 10 = .ok (.getfield 27, 3) := by decide +kernel
theorem dX7_order_13 : decode cX7_order 13 = .ok (.ladd, 1) := by decide +kernel
theorem dX7_order_14 : decode cX7_order 14 = .ok (.lstore_n 1, 1) := by decide +kernel
theorem dX7_order_15 : decode cX7_order 15 = .ok (.aload_n 0, 1) := by decide +kernel
theorem dX7_order_16 : decode cX7_order 16 = .ok (.getfield 140, 3) := by decide +kernel
theorem dX7_order_19 : decode cX7_order 19 = .ok (.lconst 0, 1) := by decide +kernel
theorem dX7_order_20 : decode cX7_order 20 = .ok (.lcmp, 1) := by decide +kernel
theorem dX7_order_21 : decode cX7_order 21 = .ok (.ifCond .ne 35, 3) := by decide +kernel
theorem dX7_order_24 : decode cX7_order 24 = .ok (.aload_n 0, 1) := by decide +kernel
theorem dX7_order_25 : decode cX7_order 25 = .ok (.getfield 143, 3) := by decide +kernel
theorem dX7_order_28 : decode cX7_order 28 = .ok (.lconst 0, 1) := by decide +kernel
theorem dX7_order_29 : decode cX7_order 29 = .ok (.lcmp, 1) := by decide +kernel
theorem dX7_order_30 : decode cX7_order 30 = .ok (.ifCond .ne 26, 3) := by decide +kernel
theorem dX7_order_33 : decode cX7_order 33 = .ok (.lload_n 1, 1) := by decide +kernel
theorem dX7_order_34 : decode cX7_order 34 = .ok (.invokestatic 37, 3) := by decide +kernel
theorem dX7_order_37 : decode cX7_order 37 = .ok (.ldc2_w 85, 3) := by decide +kernel
theorem dX7_order_40 : decode cX7_order 40 = .ok (.lcmp, 1) := by decide +kernel
theorem dX7_order_41 : decode cX7_order 41 = .ok (.ifCond .ne 15, 3) := by decide +kernel
theorem dX7_order_44 : decode cX7_order 44 = .ok (.lload_n 1, 1) := by decide +kernel
theorem dX7_order_45 : decode cX7_order 45 = .ok (.lconst 0, 1) := by decide +kernel
theorem dX7_order_46 : decode cX7_order 46 = .ok (.lcmp, 1) := by decide +kernel
theorem dX7_order_47 : decode cX7_order 47 = .ok (.ifCond .le 7, 3) := by decide +kernel
theorem dX7_order_50 : decode cX7_order 50 = .ok (.iconst 1, 1) := by decide +kernel
theorem dX7_order_51 : decode cX7_order 51 = .ok (.goto 4, 3) := by decide +kernel
theorem dX7_order_54 : decode cX7_order 54 = .ok (.iconst 2, 1) := by decide +kernel
theorem dX7_order_55 : decode cX7_order 55 = .ok (.ireturn, 1) := by decide +kernel
theorem dX7_order_56 : decode cX7_order 56 = .ok (.lload_n 1, 1) := by decide +kernel
theorem dX7_order_57 : decode cX7_order 57 = .ok (.lconst 0, 1) := by decide +kernel
theorem dX7_order_58 : decode cX7_order 58 = .ok (.lcmp, 1) := by decide +kernel
theorem dX7_order_59 : decode cX7_order 59 = .ok (.ifCond .ne 7, 3) := by decide +kernel
theorem dX7_order_62 : decode cX7_order 62 = .ok (.iconst 4, 1) := by decide +kernel
theorem dX7_order_63 : decode cX7_order 63 = .ok (.goto 27, 3) := by decide +kernel
theorem dX7_order_66 : decode cX7_order 66 = .ok (.lload_n 1, 1) := by decide +kernel
theorem dX7_order_67 : decode cX7_order 67 = .ok (.lconst 1, 1) := by decide +kernel
theorem dX7_order_68 : decode cX7_order 68 = .ok (.lcmp, 1) := by decide +kernel
theorem dX7_order_69 : decode cX7_order 69 = .ok (.ifCond .ne 8, 3) := by decide +kernel
theorem dX7_order_72 : decode cX7_order 72 = .ok (.bipush 6, 2) := by decide +kernel
theorem dX7_order_74 : decode cX7_order 74 = .ok (.goto 16, 3) := by decide +kernel
theorem dX7_order_77 : decode cX7_order 77 = .ok (.lload_n 1, 1) := by decide +kernel
theorem dX7_order_78 : decode cX7_order 78 = .ok (.ldc2_w 154, 3) := by decide +kernel
theorem dX7_order_81 : decode cX7_order 81 = .ok (.lcmp, 1) := by decide +kernel
theorem dX7_order_82 : decode cX7_order 82 = .ok (.ifCond .ne 7, 3) := by decide +kernel
theorem dX7_order_85 : decode cX7_order 85 = .ok (.iconst 3, 1) := by decide +kernel
theorem dX7_order_86 : decode cX7_order 86 = .ok (.goto 4, 3) := by decide +kernel
theorem dX7_order_89 : decode cX7_order 89 = .ok (.iconst (-1), 1) := by decide +kernel
theorem dX7_order_90 : decode cX7_order 90 = .ok (.ireturn, 1) := by decide +kernel
set_option maxRecDepth 20000 in
theorem ggX7_word_X7_down : GoodIn wsX7_word wsX7_down := goodIn_r _ [11] (by decide +kernel) (by decide +kernel)
set_option maxRecDepth 20000 in
theorem gX7_word_X7_down : GoodIn wsX7_word (va_wsS RX7 41 yX7_down wsX7_down) := goodIn_app (goodIn_of _ (by decide +kernel)) ggX7_word_X7_down
theorem dX7_word_0 : decode cX7_word 0 = .ok (.aload_n 0, 1) := by decide +kernel
theorem dX7_word_1 : decode cX7_word 1 = .ok (.iconst 0, 1) := by decide +kernel
theorem dX7_word_2 : decode cX7_word 2 = .ok (.putfield 33, 3) := by decide +kernel
theorem dX7_word_5 : decode cX7_word 5 = .ok (.iload_n 1, 1) := by decide +kernel
theorem dX7_word_6 : decode cX7_word 6 = .ok (.iconst (-1), 1) := by decide +kernel
theorem dX7_word_7 : decode cX7_word 7 = .ok (.if_icmp .ge 7, 3) := by decide +kernel
theorem dX7_word_10 : decode cX7_word 10 = .ok (.ldc2_w 76, 3) := by decide +kernel
theorem dX7_word_13 : decode cX7_word 13 = .ok (.lreturn, 1) := by decide +kernel
theorem dX7_word_14 : decode cX7_word 14 = .ok (.aload_n 0, 1) := by decide +kernel
theorem dX7_word_15 : decode cX7_word 15 = .ok (.getfield 23, 3) := by decide +kernel
theorem dX7_word_18 : decode cX7_word 18 = .ok (.lstore_n 2, 1) := by decide +kernel
theorem dX7_word_19 : decode cX7_word 19 = .ok (.aload_n 0, 1) := by decide +kernel
theorem dX7_word_20 : decode cX7_word 20 = .ok (.getfield 140, 3) := by decide +kernel
theorem dX7_word_23 : decode cX7_word 23 = .ok (.lstore 4, 2) := by decide +kernel
theorem dX7_word_25 : decode cX7_word 25 = .ok (.aload_n 0, 1) := by decide +kernel
theorem dX7_word_26 : decode cX7_word 26 = .ok (.getfield 143, 3) := by decide +kernel
theorem dX7_word_29 : decode cX7_word 29 = .ok (.lstore 6, 2) := by decide +kernel
theorem dX7_word_31 : decode cX7_word 31 = .ok (.aload_n 0, 1) := by decide +kernel
theorem dX7_word_32 : decode cX7_word 32 = .ok (.getfield 27, 3) := by decide +kernel
theorem dX7_word_35 : decode cX7_word 35 = .ok (.lstore 8, 2) := by decide +kernel
theorem dX7_word_37 : decode cX7_word 37 = .ok (.iconst 0, 1) := by decide +kernel
theorem dX7_word_38 : decode cX7_word 38 = .ok (.istore 10, 2) := by decide +kernel
theorem dX7_word_40 : decode cX7_word 40 = .ok (.lload 6, 2) := by decide +kernel
theorem dX7_word_42 : decode cX7_word 42 = .ok (.lconst 0, 1) := by decide +kernel
theorem dX7_word_43 : decode cX7_word 43 = .ok (.lcmp, 1) := by decide +kernel
theorem dX7_word_44 : decode cX7_word 44 = .ok (.ifCond .eq 73, 3) := by decide +kernel
theorem dX7_word_47 : decode cX7_word 47 = .ok (.ldc2_w 85, 3) := by decide +kernel
theorem dX7_word_50 : decode cX7_word 50 = .ok (.lload_n 2, 1) := by decide +kernel
theorem dX7_word_51 : decode cX7_word 51 = .ok (.lmul, 1) := by decide +kernel
theorem dX7_word_52 : decode cX7_word 52 = .ok (.lload 6, 2) := by decide +kernel
theorem dX7_word_54 : decode cX7_word 54 = .ok (.ladd, 1) := by decide +kernel
theorem dX7_word_55 : decode cX7_word 55 = .ok (.ldc2_w 85, 3) := by decide +kernel
theorem dX7_word_58 : decode cX7_word 58 = .ok (.lload 6, 2) := by decide +kernel
theorem dX7_word_60 : decode cX7_word 60 = .ok (.lmul, 1) := by decide +kernel
theorem dX7_word_61 : decode cX7_word 61 = .ok (.invokestatic 41, 3) := by decide +kernel
theorem dX7_word_64 : decode cX7_word 64 = .ok (.lstore 11, 2) := by decide +kernel
theorem dX7_word_66 : decode cX7_word 66 = .ok (.iload_n 1, 1) := by decide +kernel
theorem dX7_word_67 : decode cX7_word 67 = .ok (.iload 10, 2) := by decide +kernel
theorem dX7_word_69 : decode cX7_word 69 = .ok (.if_icmp .ne 6, 3) := by decide +kernel
theorem dX7_word_72 : decode cX7_word 72 = .ok (.lload 11, 2) := by decide +kernel
theorem dX7_word_74 : decode cX7_word 74 = .ok (.lreturn, 1) := by decide +kernel
theorem dX7_word_75 : decode cX7_word 75 = .ok (.iinc 10 1, 3) := by decide +kernel
theorem dX7_word_78 : decode cX7_word 78 = .ok (.lload_n 2, 1) := by decide +kernel
theorem dX7_word_79 : decode cX7_word 79 = .ok (.lload 11, 2) := by decide +kernel
theorem dX7_word_81 : decode cX7_word 81 = .ok (.lload 6, 2) := by decide +kernel
theorem dX7_word_83 : decode cX7_word 83 = .ok (.lmul, 1) := by decide +kernel
theorem dX7_word_84 : decode cX7_word 84 = .ok (.lsub, 1) := by decide +kernel
theorem dX7_word_85 : decode cX7_word 85 = .ok (.lstore 13, 2) := by decide +kernel
theorem dX7_word_87 : decode cX7_word 87 = .ok (.lload 4, 2) := by decide +kernel
theorem dX7_word_89 : decode cX7_word 89 = .ok (.lload 11, 2) := by decide +kernel
theorem dX7_word_91 : decode cX7_word 91 = .ok (.lload 8, 2) := by decide +kernel
theorem dX7_word_93 : decode cX7_word 93 = .ok (.lmul, 1) := by decide +kernel
theorem dX7_word_94 : decode cX7_word 94 = .ok (.lsub, 1) := by decide +kernel
theorem dX7_word_95 : decode cX7_word 95 = .ok (.lstore 15, 2) := by decide +kernel
theorem dX7_word_97 : decode cX7_word 97 = .ok (.lload 6, 2) := by decide +kernel
theorem dX7_word_99 : decode cX7_word 99 = .ok (.lstore_n 2, 1) := by decide +kernel
theorem dX7_word_100 : decode cX7_word 100 = .ok (.lload 8, 2) := by decide +kernel
theorem dX7_word_102 : decode cX7_word 102 = .ok (.lstore 4, 2) := by decide +kernel
theorem dX7_word_104 : decode cX7_word 104 = .ok (.lload 13, 2) := by decide +kernel
theorem dX7_word_106 : decode cX7_word 106 = .ok (.lneg, 1) := by decide +kernel
theorem dX7_word_107 : decode cX7_word 107 = .ok (.lstore 6, 2) := by decide +kernel
theorem dX7_word_109 : decode cX7_word 109 = .ok (.lload 15, 2) := by decide +kernel
theorem dX7_word_111 : decode cX7_word 111 = .ok (.lneg, 1) := by decide +kernel
theorem dX7_word_112 : decode cX7_word 112 = .ok (.lstore 8, 2) := by decide +kernel
theorem dX7_word_114 : decode cX7_word 114 = .ok (.goto (-74), 3) := by decide +kernel
theorem dX7_word_117 : decode cX7_word 117 = .ok (.iload_n 1, 1) := by decide +kernel
theorem dX7_word_118 : decode cX7_word 118 = .ok (.iload 10, 2) := by decide +kernel
theorem dX7_word_120 : decode cX7_word 120 = .ok (.if_icmp .ne 9, 3) := by decide +kernel
theorem dX7_word_123 : decode cX7_word 123 = .ok (.lload 4, 2) := by decide +kernel
theorem dX7_word_125 : decode cX7_word 125 = .ok (.lload 8, 2) := by decide +kernel
theorem dX7_word_127 : decode cX7_word 127 = .ok (.lmul, 1) := by decide +kernel
theorem dX7_word_128 : decode cX7_word 128 = .ok (.lreturn, 1) := by decide +kernel
theorem dX7_word_129 : decode cX7_word 129 = .ok (.iload_n 1, 1) := by decide +kernel
theorem dX7_word_130 : decode cX7_word 130 = .ok (.iconst (-1), 1) := by decide +kernel
theorem dX7_word_131 : decode cX7_word 131 = .ok (.if_icmp .ne 11, 3) := by decide +kernel
theorem dX7_word_134 : decode cX7_word 134 = .ok (.iload 10, 2) := by decide +kernel
theorem dX7_word_136 : decode cX7_word 136 = .ok (.i2l, 1) := by decide +kernel
theorem dX7_word_137 : decode cX7_word 137 = .ok (.lconst 1, 1) := by decide +kernel
theorem dX7_word_138 : decode cX7_word 138 = .ok (.ladd, 1) := by decide +kernel
theorem dX7_word_139 : decode cX7_word 139 = .ok (.goto 6, 3) := by decide +kernel
theorem dX7_word_142 : decode cX7_word 142 = .ok (.ldc2_w 76, 3) := by decide +kernel
theorem dX7_word_145 : decode cX7_word 145 = .ok (.lreturn, 1) := by decide +kernel
set_option maxRecDepth 20000 in
theorem ggX7_isRing_X7_isIn : GoodIn wsX7_isRing wsX7_isIn := goodIn_r _ [6] (by decide +kernel) (by decide +kernel)
set_option maxRecDepth 20000 in
theorem gX7_isRing_X7_isIn : GoodIn wsX7_isRing (va_wsS RX7 72 yX7_isIn wsX7_isIn) := goodIn_app (goodIn_of _ (by decide +kernel)) ggX7_isRing_X7_isIn
set_option maxRecDepth 20000 in
theorem ggX7_isRing_X7_common : GoodIn wsX7_isRing wsX7_common := goodIn_r _ [9, 10, 11, 5, 12] (by decide +kernel) (by decide +kernel)
set_option maxRecDepth 20000 in
theorem gX7_isRing_X7_common : GoodIn wsX7_isRing (va_wsS RX7 45 yX7_common wsX7_common) := goodIn_app (goodIn_of _ (by decide +kernel)) ggX7_isRing_X7_common
theorem dX7_isRing_0 : decode cX7_isRing 0 = .ok (.iload_n 0, 1) := by decide +kernel
theorem dX7_isRing_1 : decode cX7_isRing 1 = .ok (.i2l, 1) := by decide +kernel
theorem dX7_isRing_2 : decode cX7_isRing 2 = .ok (.ldc2_w 85, 3) := by decide +kernel
theorem dX7_isRing_5 : decode cX7_isRing 5 = .ok (.ldc2_w 95, 3) := by decide +kernel
theorem dX7_isRing_8 : decode cX7_isRing 8 = .ok (.invokestatic 72, 3) := by decide +kernel
theorem dX7_isRing_11 : decode cX7_isRing 11 = .ok (.ifCond .eq 19, 3) := by decide +kernel
theorem dX7_isRing_14 : decode cX7_isRing 14 = .ok (.iload_n 0, 1) := by decide +kernel
theorem dX7_isRing_15 : decode cX7_isRing 15 = .ok (.i2l, 1) := by decide +kernel
theorem dX7_isRing_16 : decode cX7_isRing 16 = .ok (.iload_n 1, 1) := by decide +kernel
theorem dX7_isRing_17 : decode cX7_isRing 17 = .ok (.i2l, 1) := by decide +kernel
theorem dX7_isRing_18 : decode cX7_isRing 18 = .ok (.invokestatic 45, 3) := by decide +kernel
theorem dX7_isRing_21 : decode cX7_isRing 21 = .ok (.lconst 1, 1) := by decide +kernel
theorem dX7_isRing_22 : decode cX7_isRing 22 = .ok (.lcmp, 1) := by decide +kernel
theorem dX7_isRing_23 : decode cX7_isRing 23 = .ok (.ifCond .ne 7, 3) := by decide +kernel
theorem dX7_isRing_26 : decode cX7_isRing 26 = .ok (.iconst 1, 1) := by decide +kernel
theorem dX7_isRing_27 : decode cX7_isRing 27 = .ok (.goto 4, 3) := by decide +kernel
theorem dX7_isRing_30 : decode cX7_isRing 30 = .ok (.iconst 0, 1) := by decide +kernel
theorem dX7_isRing_31 : decode cX7_isRing 31 = .ok (.ireturn, 1) := by decide +kernel
theorem dX7_areSame_0 : decode cX7_areSame 0 = .ok (.lload_n 2, 1) := by decide +kernel
theorem dX7_areSame_1 : decode cX7_areSame 1 = .ok (.lload 4, 2) := by decide +kernel
theorem dX7_areSame_3 : decode cX7_areSame 3 = .ok (.lcmp, 1) := by decide +kernel
theorem dX7_areSame_4 : decode cX7_areSame 4 = .ok (.ifCond .eq 14, 3) := by decide +kernel
theorem dX7_areSame_7 : decode cX7_areSame 7 = .ok (.lload_n 2, 1) := by decide +kernel
theorem dX7_areSame_8 : decode cX7_areSame 8 = .ok (.lload 4, 2) := by decide +kernel
theorem dX7_areSame_10 : decode cX7_areSame 10 = .ok (.lmul, 1) := by decide +kernel
theorem dX7_areSame_11 : decode cX7_areSame 11 = .ok (.lload_n 0, 1) := by decide +kernel
theorem dX7_areSame_12 : decode cX7_areSame 12 = .ok (.lrem, 1) := by decide +kernel
theorem dX7_areSame_13 : decode cX7_areSame 13 = .ok (.lconst 1, 1) := by decide +kernel
theorem dX7_areSame_14 : decode cX7_areSame 14 = .ok (.lcmp, 1) := by decide +kernel
theorem dX7_areSame_15 : decode cX7_areSame 15 = .ok (.ifCond .ne 7, 3) := by decide +kernel
theorem dX7_areSame_18 : decode cX7_areSame 18 = .ok (.iconst 1, 1) := by decide +kernel
theorem dX7_areSame_19 : decode cX7_areSame 19 = .ok (.goto 4, 3) := by decide +kernel
theorem dX7_areSame_22 : decode cX7_areSame 22 = .ok (.iconst 0, 1) := by decide +kernel
theorem dX7_areSame_23 : decode cX7_areSame 23 = .ok (.ireturn, 1) := by decide +kernel
set_option maxRecDepth 20000 in
theorem ggX7_same_X7_isRing : GoodIn wsX7_same wsX7_isRing := goodIn_r _ [5, 6, 7, 8, 9, 4, 10, 11, 12, 13, 14, 15, 16] (by decide +kernel) (by decide +kernel)
set_option maxRecDepth 20000 in
theorem gX7_same_X7_isRing : GoodIn wsX7_same (va_wsS RX7 163 yX7_isRing wsX7_isRing) := goodIn_app (goodIn_of _ (by decide +kernel)) ggX7_same_X7_isRing
set_option maxRecDepth 20000 in
theorem ggX7_same_X7_rest : GoodIn wsX7_same wsX7_rest := goodIn_r _ [19, 20, 21, 4, 22] (by decide +kernel) (by decide +kernel)
set_option maxRecDepth 20000 in
theorem gX7_same_X7_rest : GoodIn wsX7_same (va_wsS RX7 54 yX7_rest wsX7_rest) := goodIn_app (goodIn_of _ (by decide +kernel)) ggX7_same_X7_rest
set_option maxRecDepth 20000 in
theorem ggX7_same_X7_areSame : GoodIn wsX7_same wsX7_areSame := goodIn_r _ [25] (by decide +kernel) (by decide +kernel)
set_option maxRecDepth 20000 in
theorem gX7_same_X7_areSame : GoodIn wsX7_same (va_wsS RX7 167 yX7_areSame wsX7_areSame) := goodIn_app (goodIn_of _ (by decide +kernel)) ggX7_same_X7_areSame
theorem dX7_same_0 : decode cX7_same 0 = .ok (.aload_n 0, 1) := by decide +kernel
theorem dX7_same_1 : decode cX7_same 1 = .ok (.iconst 0, 1) := by decide +kernel
theorem dX7_same_2 : decode cX7_same 2 = .ok (.putfield 33, 3) := by decide +kernel
theorem dX7_same_5 : decode cX7_same 5 = .ok (.iload_n 1, 1) := by decide +kernel
theorem dX7_same_6 : decode cX7_same 6 = .ok (.iload_n 2, 1) := by decide +kernel
theorem dX7_same_7 : decode cX7_same 7 = .ok (.invokestatic 163, 3) := by decide +kernel
theorem dX7_same_10 : decode cX7_same 10 = .ok (.ifCond .eq 11, 3) := by decide +kernel
theorem dX7_same_13 : decode cX7_same 13 = .ok (.iload_n 1, 1) := by decide +kernel
theorem dX7_same_14 : decode cX7_same 14 = .ok (.iload_n 3, 1) := by decide +kernel
theorem dX7_same_15 : decode cX7_same 15 = .ok (.invokestatic 163, 3) := by decide +kernel
theorem dX7_same_18 : decode cX7_same 18 = .ok (.ifCond .ne 5, 3) := by decide +kernel
theorem dX7_same_21 : decode cX7_same 21 = .ok (.iconst (-1), 1) := by decide +kernel
theorem dX7_same_22 : decode cX7_same 22 = .ok (.ireturn, 1) := by decide +kernel
theorem dX7_same_23 : decode cX7_same 23 = .ok (.iload_n 2, 1) := by decide +kernel
theorem dX7_same_24 : decode cX7_same 24 = .ok (.i2l, 1) := by decide +kernel
theorem dX7_same_25 : decode cX7_same 25 = .ok (.iload_n 1, 1) := by decide +kernel
theorem dX7_same_26 : decode cX7_same 26 = .ok (.i2l, 1) := by decide +kernel
theorem dX7_same_27 : decode cX7_same 27 = .ok (.invokestatic 54, 3) := by decide +kernel
theorem dX7_same_30 : decode cX7_same 30 = .ok (.lstore 4, 2) := by decide +kernel
theorem dX7_same_32 : decode cX7_same 32 = .ok (.iload_n 3, 1) := by decide +kernel
theorem dX7_same_33 : decode cX7_same 33 = .ok (.i2l, 1) := by decide +kernel
theorem dX7_same_34 : decode cX7_same 34 = .ok (.iload_n 1, 1) := by decide +kernel
theorem dX7_same_35 : decode cX7_same 35 = .ok (.i2l, 1) := by decide +kernel
theorem dX7_same_36 : decode cX7_same 36 = .ok (.invokestatic 54, 3) := by decide +kernel
theorem dX7_same_39 : decode cX7_same 39 = .ok (.lstore 6, 2) := by decide +kernel
theorem dX7_same_41 : decode cX7_same 41 = .ok (.iload_n 1, 1) := by decide +kernel
theorem dX7_same_42 : decode cX7_same 42 = .ok (.i2l, 1) := by decide +kernel
theorem dX7_same_43 : decode cX7_same 43 = .ok (.lload 4, 2) := by decide +kernel
theorem dX7_same_45 : decode cX7_same 45 = .ok (.lload 6, 2) := by decide +kernel
theorem dX7_same_47 : decode cX7_same 47 = .ok (.invokestatic 167, 3) := by decide +kernel
theorem dX7_same_50 : decode cX7_same 50 = .ok (.ifCond .eq 7, 3) := by decide +kernel
theorem dX7_same_53 : decode cX7_same 53 = .ok (.iconst 2, 1) := by decide +kernel
theorem dX7_same_54 : decode cX7_same 54 = .ok (.goto 23, 3) := by decide +kernel
theorem dX7_same_57 : decode cX7_same 57 = .ok (.iload_n 1, 1) := by decide +kernel
theorem dX7_same_58 : decode cX7_same 58 = .ok (.i2l, 1) := by decide +kernel
theorem dX7_same_59 : decode cX7_same 59 = .ok (.iload_n 1, 1) := by decide +kernel
theorem dX7_same_60 : decode cX7_same 60 = .ok (.i2l, 1) := by decide +kernel
theorem dX7_same_61 : decode cX7_same 61 = .ok (.lload 4, 2) := by decide +kernel
theorem dX7_same_63 : decode cX7_same 63 = .ok (.lsub, 1) := by decide +kernel
theorem dX7_same_64 : decode cX7_same 64 = .ok (.lload 6, 2) := by decide +kernel
theorem dX7_same_66 : decode cX7_same 66 = .ok (.invokestatic 167, 3) := by decide +kernel
theorem dX7_same_69 : decode cX7_same 69 = .ok (.ifCond .eq 7, 3) := by decide +kernel
theorem dX7_same_72 : decode cX7_same 72 = .ok (.iconst 1, 1) := by decide +kernel
theorem dX7_same_73 : decode cX7_same 73 = .ok (.goto 4, 3) := by decide +kernel
theorem dX7_same_76 : decode cX7_same 76 = .ok (.iconst 0, 1) := by decide +kernel
theorem dX7_same_77 : decode cX7_same 77 = .ok (.ireturn, 1) := by decide +kernel
set_option maxRecDepth 20000 in
theorem ggX7_ringOf_X7_rest : GoodIn wsX7_ringOf wsX7_rest := goodIn_r _ [4, 5, 6, 3, 7] (by decide +kernel) (by decide +kernel)
set_option maxRecDepth 20000 in
theorem gX7_ringOf_X7_rest : GoodIn wsX7_ringOf (va_wsS RX7 54 yX7_rest wsX7_rest) := goodIn_app (goodIn_of _ (by decide +kernel)) ggX7_ringOf_X7_rest
set_option maxRecDepth 20000 in
theorem ggX7_ringOf_X7_inverse : GoodIn wsX7_ringOf wsX7_inverse := goodIn_r _ [10] (by decide +kernel) (by decide +kernel)
set_option maxRecDepth 20000 in
theorem gX7_ringOf_X7_inverse : GoodIn wsX7_ringOf (va_wsS RX7 101 yX7_inverse wsX7_inverse) := goodIn_app (goodIn_of _ (by decide +kernel)) ggX7_ringOf_X7_inverse
theorem dX7_ringOf_0 : decode cX7_ringOf 0 = .ok (.iload_n 1, 1) := by decide +kernel
theorem dX7_ringOf_1 : decode cX7_ringOf 1 = .ok (.i2l, 1) := by decide +kernel
theorem dX7_ringOf_2 : decode cX7_ringOf 2 = .ok (.iload_n 0, 1) := by decide +kernel
theorem dX7_ringOf_3 : decode cX7_ringOf 3 = .ok (.i2l, 1) := by decide +kernel
theorem dX7_ringOf_4 : decode cX7_ringOf 4 = .ok (.invokestatic 54, 3) := by decide +kernel
theorem dX7_ringOf_7 : decode cX7_ringOf 7 = .ok (.lstore_n 2, 1) := by decide +kernel
theorem dX7_ringOf_8 : decode cX7_ringOf 8 = .ok (.lload_n 2, 1) := by decide +kernel
theorem dX7_ringOf_9 : decode cX7_ringOf 9 = .ok (.iload_n 0, 1) := by decide +kernel
theorem dX7_ringOf_10 : decode cX7_ringOf 10 = .ok (.i2l, 1) := by decide +kernel
theorem dX7_ringOf_11 : decode cX7_ringOf 11 = .ok (.invokestatic 101, 3) := by decide +kernel
theorem dX7_ringOf_14 : decode cX7_ringOf 14 = .ok (.lstore 4, 2) := by decide +kernel
theorem dX7_ringOf_16 : decode cX7_ringOf 16 = .ok (.lload_n 2, 1) := by decide +kernel
theorem dX7_ringOf_17 : decode cX7_ringOf 17 = .ok (.lload 4, 2) := by decide +kernel
theorem dX7_ringOf_19 : decode cX7_ringOf 19 = .ok (.lcmp, 1) := by decide +kernel
theorem dX7_ringOf_20 : decode cX7_ringOf 20 = .ok (.ifCond .ge 7, 3) := by decide +kernel
theorem dX7_ringOf_23 : decode cX7_ringOf 23 = .ok (.lload_n 2, 1) := by decide +kernel
theorem dX7_ringOf_24 : decode cX7_ringOf 24 = .ok (.goto 5, 3) := by decide +kernel
theorem dX7_ringOf_27 : decode cX7_ringOf 27 = .ok (.lload 4, 2) := by decide +kernel
theorem dX7_ringOf_29 : decode cX7_ringOf 29 = .ok (.lstore 6, 2) := by decide +kernel
theorem dX7_ringOf_31 : decode cX7_ringOf 31 = .ok (.iload_n 0, 1) := by decide +kernel
theorem dX7_ringOf_32 : decode cX7_ringOf 32 = .ok (.i2l, 1) := by decide +kernel
theorem dX7_ringOf_33 : decode cX7_ringOf 33 = .ok (.lload_n 2, 1) := by decide +kernel
theorem dX7_ringOf_34 : decode cX7_ringOf 34 = .ok (.lsub, 1) := by decide +kernel
theorem dX7_ringOf_35 : decode cX7_ringOf 35 = .ok (.lload 6, 2) := by decide +kernel
theorem dX7_ringOf_37 : decode cX7_ringOf 37 = .ok (.lcmp, 1) := by decide +kernel
theorem dX7_ringOf_38 : decode cX7_ringOf 38 = .ok (.ifCond .ge 10, 3) := by decide +kernel
theorem dX7_ringOf_41 : decode cX7_ringOf 41 = .ok (.iload_n 0, 1) := by decide +kernel
theorem dX7_ringOf_42 : decode cX7_ringOf 42 = .ok (.i2l, 1) := by decide +kernel
theorem dX7_ringOf_43 : decode cX7_ringOf 43 = .ok (.lload_n 2, 1) := by decide +kernel
theorem dX7_ringOf_44 : decode cX7_ringOf 44 = .ok (.lsub, 1) := by decide +kernel
theorem dX7_ringOf_45 : decode cX7_ringOf 45 = .ok (.goto 5, 3) := by decide +kernel
theorem dX7_ringOf_48 : decode cX7_ringOf 48 = .ok (.lload 6, 2) := by decide +kernel
theorem dX7_ringOf_50 : decode cX7_ringOf 50 = .ok (.lstore 6, 2) := by decide +kernel
theorem dX7_ringOf_52 : decode cX7_ringOf 52 = .ok (.iload_n 0, 1) := by decide +kernel
theorem dX7_ringOf_53 : decode cX7_ringOf 53 = .ok (.i2l, 1) := by decide +kernel
theorem dX7_ringOf_54 : decode cX7_ringOf 54 = .ok (.lload 4, 2) := by decide +kernel
theorem dX7_ringOf_56 : decode cX7_ringOf 56 = .ok (.lsub, 1) := by decide +kernel
theorem dX7_ringOf_57 : decode cX7_ringOf 57 = .ok (.lload 6, 2) := by decide +kernel
theorem dX7_ringOf_59 : decode cX7_ringOf 59 = .ok (.lcmp, 1) := by decide +kernel
theorem dX7_ringOf_60 : decode cX7_ringOf 60 = .ok (.ifCond .ge 11, 3) := by decide +kernel
theorem dX7_ringOf_63 : decode cX7_ringOf 63 = .ok (.iload_n 0, 1) := by decide +kernel
theorem dX7_ringOf_64 : decode cX7_ringOf 64 = .ok (.i2l, 1) := by decide +kernel
theorem dX7_ringOf_65 : decode cX7_ringOf 65 = .ok (.lload 4, 2) := by decide +kernel
theorem dX7_ringOf_67 : decode cX7_ringOf 67 = .ok (.lsub, 1) := by decide +kernel
theorem dX7_ringOf_68 : decode cX7_ringOf 68 = .ok (.goto 5, 3) := by decide +kernel
theorem dX7_ringOf_71 : decode cX7_ringOf 71 = .ok (.lload 6, 2) := by decide +kernel
theorem dX7_ringOf_73 : decode cX7_ringOf 73 = .ok (.l2i, 1) := by decide +kernel
theorem dX7_ringOf_74 : decode cX7_ringOf 74 = .ok (.ireturn, 1) := by decide +kernel
set_option maxRecDepth 20000 in
theorem ggX7_ring_X7_isRing : GoodIn wsX7_ring wsX7_isRing := goodIn_r _ [5, 6, 7, 8, 9, 4, 10, 11, 12, 13, 14, 15, 16] (by decide +kernel) (by decide +kernel)
set_option maxRecDepth 20000 in
theorem gX7_ring_X7_isRing : GoodIn wsX7_ring (va_wsS RX7 163 yX7_isRing wsX7_isRing) := goodIn_app (goodIn_of _ (by decide +kernel)) ggX7_ring_X7_isRing
set_option maxRecDepth 20000 in
theorem ggX7_ring_X7_ringOf : GoodIn wsX7_ring wsX7_ringOf := goodIn_r _ [19, 20, 21, 4, 22, 23, 24, 25, 26, 27, 28] (by decide +kernel) (by decide +kernel)
set_option maxRecDepth 20000 in
theorem gX7_ring_X7_ringOf : GoodIn wsX7_ring (va_wsS RX7 170 yX7_ringOf wsX7_ringOf) := goodIn_app (goodIn_of _ (by decide +kernel)) ggX7_ring_X7_ringOf
theorem dX7_ring_0 : decode cX7_ring 0 = .ok (.aload_n 0, 1) := by decide +kernel
theorem dX7_ring_1 : decode cX7_ring 1 = .ok (.iconst 0, 1) := by decide +kernel
theorem dX7_ring_2 : decode cX7_ring 2 = .ok (.putfield 33, 3) := by decide +kernel
theorem dX7_ring_5 : decode cX7_ring 5 = .ok (.iload_n 1, 1) := by decide +kernel
theorem dX7_ring_6 : decode cX7_ring 6 = .ok (.iload_n 2, 1) := by decide +kernel
theorem dX7_ring_7 : decode cX7_ring 7 = .ok (.invokestatic 163, 3) := by decide +kernel
theorem dX7_ring_10 : decode cX7_ring 10 = .ok (.ifCond .eq 11, 3) := by decide +kernel
theorem dX7_ring_13 : decode cX7_ring 13 = .ok (.iload_n 1, 1) := by decide +kernel
theorem dX7_ring_14 : decode cX7_ring 14 = .ok (.iload_n 2, 1) := by decide +kernel
theorem dX7_ring_15 : decode cX7_ring 15 = .ok (.invokestatic 170, 3) := by decide +kernel
theorem dX7_ring_18 : decode cX7_ring 18 = .ok (.goto 4, 3) := by decide +kernel
theorem dX7_ring_21 : decode cX7_ring 21 = .ok (.iconst (-1), 1) := by decide +kernel
theorem dX7_ring_22 : decode cX7_ring 22 = .ok (.ireturn, 1) := by decide +kernel
set_option maxRecDepth 20000 in
theorem ggX7_laysRings_X7_common : GoodIn wsX7_laysRings wsX7_common := goodIn_r _ [5, 6, 7, 4, 8] (by decide +kernel) (by decide +kernel)
set_option maxRecDepth 20000 in
theorem gX7_laysRings_X7_common : GoodIn wsX7_laysRings (va_wsS RX7 45 yX7_common wsX7_common) := goodIn_app (goodIn_of _ (by decide +kernel)) ggX7_laysRings_X7_common
set_option maxRecDepth 20000 in
theorem ggX7_laysRings_X7_ringOf : GoodIn wsX7_laysRings wsX7_ringOf := goodIn_r _ [11, 12, 13, 4, 14, 15, 16, 17, 18, 19, 20] (by decide +kernel) (by decide +kernel)
set_option maxRecDepth 20000 in
theorem gX7_laysRings_X7_ringOf : GoodIn wsX7_laysRings (va_wsS RX7 170 yX7_ringOf wsX7_ringOf) := goodIn_app (goodIn_of _ (by decide +kernel)) ggX7_laysRings_X7_ringOf
theorem dX7_laysRings_0 : decode cX7_laysRings 0 = .ok (.iconst 0, 1) := by decide +kernel
theorem dX7_laysRings_1 : decode cX7_laysRings 1 = .ok (.istore_n 2, 1) := by decide +kernel
theorem dX7_laysRings_2 : decode cX7_laysRings 2 = .ok (.iconst 1, 1) := by decide +kernel
theorem dX7_laysRings_3 : decode cX7_laysRings 3 = .ok (.istore_n 3, 1) := by decide +kernel
theorem dX7_laysRings_4 : decode cX7_laysRings 4 = .ok (.iload_n 3, 1) := by decide +kernel
theorem dX7_laysRings_5 : decode cX7_laysRings 5 = .ok (.iload_n 1, 1) := by decide +kernel
theorem dX7_laysRings_6 : decode cX7_laysRings 6 = .ok (.if_icmp .ge 44, 3) := by decide +kernel
theorem dX7_laysRings_9 : decode cX7_laysRings 9 = .ok (.iload_n 1, 1) := by decide +kernel
theorem dX7_laysRings_10 : decode cX7_laysRings 10 = .ok (.i2l, 1) := by decide +kernel
theorem dX7_laysRings_11 : decode cX7_laysRings 11 = .ok (.iload_n 3, 1) := by decide +kernel
theorem dX7_laysRings_12 : decode cX7_laysRings 12 = .ok (.i2l, 1) := by decide +kernel
theorem dX7_laysRings_13 : decode cX7_laysRings 13 = .ok (.invokestatic 45, 3) := by decide +kernel
theorem dX7_laysRings_16 : decode cX7_laysRings 16 = .ok (.lconst 1, 1) := by decide +kernel
theorem dX7_laysRings_17 : decode cX7_laysRings 17 = .ok (.lcmp, 1) := by decide +kernel
theorem dX7_laysRings_18 : decode cX7_laysRings 18 = .ok (.ifCond .ne 26, 3) := by decide +kernel
theorem dX7_laysRings_21 : decode cX7_laysRings 21 = .ok (.iload_n 1, 1) := by decide +kernel
theorem dX7_laysRings_22 : decode cX7_laysRings 22 = .ok (.iload_n 3, 1) := by decide +kernel
theorem dX7_laysRings_23 : decode cX7_laysRings 23 = .ok (.invokestatic 170, 3) := by decide +kernel
theorem dX7_laysRings_26 : decode cX7_laysRings 26 = .ok (.iload_n 3, 1) := by decide +kernel
theorem dX7_laysRings_27 : decode cX7_laysRings 27 = .ok (.if_icmp .eq 6, 3) := by decide +kernel
theorem dX7_laysRings_30 : decode cX7_laysRings 30 = .ok (.goto 14, 3) := by decide +kernel
theorem dX7_laysRings_33 : decode cX7_laysRings 33 = .ok (.aload_n 0, 1) := by decide +kernel
theorem dX7_laysRings_34 : decode cX7_laysRings 34 = .ok (.getfield 7, 3) := by decide +kernel
theorem dX7_laysRings_37 : decode cX7_laysRings 37 = .ok (.iload_n 2, 1) := by decide +kernel
theorem dX7_laysRings_38 : decode cX7_laysRings 38 = .ok (.iload_n 3, 1) := by decide +kernel
theorem dX7_laysRings_39 : decode cX7_laysRings 39 = .ok (.i2l, 1) := by decide +kernel
theorem dX7_laysRings_40 : decode cX7_laysRings 40 = .ok (.lastore, 1) := by decide +kernel
theorem dX7_laysRings_41 : decode cX7_laysRings 41 = .ok (.iinc 2 1, 3) := by decide +kernel
theorem dX7_laysRings_44 : decode cX7_laysRings 44 = .ok (.iinc 3 1, 3) := by decide +kernel
theorem dX7_laysRings_47 : decode cX7_laysRings 47 = .ok (.goto (-43), 3) := by decide +kernel
theorem dX7_laysRings_50 : decode cX7_laysRings 50 = .ok (.iload_n 2, 1) := by decide +kernel
theorem dX7_laysRings_51 : decode cX7_laysRings 51 = .ok (.ireturn, 1) := by decide +kernel
set_option maxRecDepth 20000 in
theorem ggX7_rings_X7_isIn : GoodIn wsX7_rings wsX7_isIn := goodIn_r _ [8] (by decide +kernel) (by decide +kernel)
set_option maxRecDepth 20000 in
theorem gX7_rings_X7_isIn : GoodIn wsX7_rings (va_wsS RX7 72 yX7_isIn wsX7_isIn) := goodIn_app (goodIn_of _ (by decide +kernel)) ggX7_rings_X7_isIn
set_option maxRecDepth 20000 in
theorem ggX7_rings_X7_laysRings : GoodIn wsX7_rings wsX7_laysRings := goodIn_r _ [12, 4, 13, 14, 7, 15, 16, 17, 18, 19, 20, 21, 22, 23, 24, 25, 26, 27, 28, 29, 30, 31, 32, 33, 34, 35, 36, 37, 38, 39, 40, 41, 42, 43, 44, 45, 46, 47, 48, 49, 50, 51, 52, 53, 54] (by decide +kernel) (by decide +kernel)
set_option maxRecDepth 20000 in
theorem gX7_rings_X7_laysRings : GoodIn wsX7_rings (wsV RX7 174 RX7 yX7_laysRings wsX7_laysRings) := goodIn_app (goodIn_of _ (by decide +kernel)) ggX7_rings_X7_laysRings
theorem dX7_rings_0 : decode cX7_rings 0 = .ok (.aload_n 0, 1) := by decide +kernel
theorem dX7_rings_1 : decode cX7_rings 1 = .ok (.iconst 0, 1) := by decide +kernel
theorem dX7_rings_2 : decode cX7_rings 2 = .ok (.putfield 33, 3) := by decide +kernel
theorem dX7_rings_5 : decode cX7_rings 5 = .ok (.iload_n 1, 1) := by decide +kernel
theorem dX7_rings_6 : decode cX7_rings 6 = .ok (.i2l, 1) := by decide +kernel
theorem dX7_rings_7 : decode cX7_rings 7 = .ok (.ldc2_w 85, 3) := by decide +kernel
theorem dX7_rings_10 : decode cX7_rings 10 = .ok (.ldc2_w 95, 3) := by decide +kernel
theorem dX7_rings_13 : decode cX7_rings 13 = .ok (.invokestatic 72, 3) := by decide +kernel
theorem dX7_rings_16 : decode cX7_rings 16 = .ok (.ifCond .ne 5, 3) := by decide +kernel
theorem dX7_rings_19 : decode cX7_rings 19 = .ok (.iconst (-1), 1) := by decide +kernel
theorem dX7_rings_20 : decode cX7_rings 20 = .ok (.ireturn, 1) := by decide +kernel
theorem dX7_rings_21 : decode cX7_rings 21 = .ok (.aload_n 0, 1) := by decide +kernel
theorem dX7_rings_22 : decode cX7_rings 22 = .ok (.iload_n 1, 1) := by decide +kernel
theorem dX7_rings_23 : decode cX7_rings 23 = .ok (.invokevirtual 174, 3) := by decide +kernel
theorem dX7_rings_26 : decode cX7_rings 26 = .ok (.istore_n 3, 1) := by decide +kernel
theorem dX7_rings_27 : decode cX7_rings 27 = .ok (.iload_n 2, 1) := by decide +kernel
theorem dX7_rings_28 : decode cX7_rings 28 = .ok (.iconst (-1), 1) := by decide +kernel
theorem dX7_rings_29 : decode cX7_rings 29 = .ok (.if_icmp .ne 7, 3) := by decide +kernel
theorem dX7_rings_32 : decode cX7_rings 32 = .ok (.iload_n 3, 1) := by decide +kernel
theorem dX7_rings_33 : decode cX7_rings 33 = .ok (.goto 27, 3) := by decide +kernel
theorem dX7_rings_36 : decode cX7_rings 36 = .ok (.iload_n 2, 1) := by decide +kernel
theorem dX7_rings_37 : decode cX7_rings 37 = .ok (.i2l, 1) := by decide +kernel
theorem dX7_rings_38 : decode cX7_rings 38 = .ok (.lconst 0, 1) := by decide +kernel
theorem dX7_rings_39 : decode cX7_rings 39 = .ok (.iload_n 3, 1) := by decide +kernel
theorem dX7_rings_40 : decode cX7_rings 40 = .ok (.iconst 1, 1) := by decide +kernel
theorem dX7_rings_41 : decode cX7_rings 41 = .ok (.isub, 1) := by decide +kernel
theorem dX7_rings_42 : decode cX7_rings 42 = .ok (.i2l, 1) := by decide +kernel
theorem dX7_rings_43 : decode cX7_rings 43 = .ok (.invokestatic 72, 3) := by decide +kernel
theorem dX7_rings_46 : decode cX7_rings 46 = .ok (.ifCond .eq 13, 3) := by decide +kernel
theorem dX7_rings_49 : decode cX7_rings 49 = .ok (.aload_n 0, 1) := by decide +kernel
theorem dX7_rings_50 : decode cX7_rings 50 = .ok (.getfield 7, 3) := by decide +kernel
theorem dX7_rings_53 : decode cX7_rings 53 = .ok (.iload_n 2, 1) := by decide +kernel
theorem dX7_rings_54 : decode cX7_rings 54 = .ok (.laload, 1) := by decide +kernel
theorem dX7_rings_55 : decode cX7_rings 55 = .ok (.l2i, 1) := by decide +kernel
theorem dX7_rings_56 : decode cX7_rings 56 = .ok (.goto 4, 3) := by decide +kernel
theorem dX7_rings_59 : decode cX7_rings 59 = .ok (.iconst (-1), 1) := by decide +kernel
theorem dX7_rings_60 : decode cX7_rings 60 = .ok (.ireturn, 1) := by decide +kernel
set_option maxRecDepth 20000 in
theorem ggX7_twins_X7_isIn : GoodIn wsX7_twins wsX7_isIn := goodIn_r _ [8] (by decide +kernel) (by decide +kernel)
set_option maxRecDepth 20000 in
theorem gX7_twins_X7_isIn : GoodIn wsX7_twins (va_wsS RX7 72 yX7_isIn wsX7_isIn) := goodIn_app (goodIn_of _ (by decide +kernel)) ggX7_twins_X7_isIn
set_option maxRecDepth 20000 in
theorem ggX7_twins_X7_laysRings : GoodIn wsX7_twins wsX7_laysRings := goodIn_r _ [12, 4, 13, 14, 7, 15, 16, 17, 18, 19, 20, 21, 22, 23, 24, 25, 26, 27, 28, 29, 30, 35, 36, 37, 38, 39, 40, 41, 42, 43, 44, 45, 46, 47, 48, 49, 50, 51, 52, 53, 54, 55, 56, 57, 58] (by decide +kernel) (by decide +kernel)
set_option maxRecDepth 20000 in
theorem gX7_twins_X7_laysRings : GoodIn wsX7_twins (wsV RX7 174 RX7 yX7_laysRings wsX7_laysRings) := goodIn_app (goodIn_of _ (by decide +kernel)) ggX7_twins_X7_laysRings
set_option maxRecDepth 20000 in
theorem ggX7_twins_X7_twelve : GoodIn wsX7_twins wsX7_twelve := goodIn_r _ [33, 34, 22, 23, 7, 24, 25, 26, 27] (by decide +kernel) (by decide +kernel)
set_option maxRecDepth 20000 in
theorem gX7_twins_X7_twelve : GoodIn wsX7_twins (va_wsS RX7 59 yX7_twelve wsX7_twelve) := goodIn_app (goodIn_of _ (by decide +kernel)) ggX7_twins_X7_twelve
set_option maxRecDepth 20000 in
theorem ggX7_twins_X7_size : GoodIn wsX7_twins wsX7_size := goodIn_r _ [18] (by decide +kernel) (by decide +kernel)
set_option maxRecDepth 20000 in
theorem gX7_twins_X7_size : GoodIn wsX7_twins (va_wsS RX7 37 yX7_size wsX7_size) := goodIn_app (goodIn_of _ (by decide +kernel)) ggX7_twins_X7_size
theorem dX7_twins_0 : decode cX7_twins 0 = .ok (.aload_n 0, 1) := by decide +kernel
theorem dX7_twins_1 : decode cX7_twins 1 = .ok (.iconst 0, 1) := by decide +kernel
theorem dX7_twins_2 : decode cX7_twins 2 = .ok (.putfield 33, 3) := by decide +kernel
theorem dX7_twins_5 : decode cX7_twins 5 = .ok (.iload_n 1, 1) := by decide +kernel
theorem dX7_twins_6 : decode cX7_twins 6 = .ok (.i2l, 1) := by decide +kernel
theorem dX7_twins_7 : decode cX7_twins 7 = .ok (.ldc2_w 85, 3) := by decide +kernel
theorem dX7_twins_10 : decode cX7_twins 10 = .ok (.ldc2_w 95, 3) := by decide +kernel
theorem dX7_twins_13 : decode cX7_twins 13 = .ok (.invokestatic 72, 3) := by decide +kernel
theorem dX7_twins_16 : decode cX7_twins 16 = .ok (.ifCond .ne 5, 3) := by decide +kernel
theorem dX7_twins_19 : decode cX7_twins 19 = .ok (.iconst (-1), 1) := by decide +kernel
theorem dX7_twins_20 : decode cX7_twins 20 = .ok (.ireturn, 1) := by decide +kernel
theorem dX7_twins_21 : decode cX7_twins 21 = .ok (.aload_n 0, 1) := by decide +kernel
theorem dX7_twins_22 : decode cX7_twins 22 = .ok (.iload_n 1, 1) := by decide +kernel
theorem dX7_twins_23 : decode cX7_twins 23 = .ok (.invokevirtual 174, 3) := by decide +kernel
theorem dX7_twins_26 : decode cX7_twins 26 = .ok (.istore_n 3, 1) := by decide +kernel
theorem dX7_twins_27 : decode cX7_twins 27 = .ok (.iconst 0, 1) := by decide +kernel
theorem dX7_twins_28 : decode cX7_twins 28 = .ok (.istore 4, 2) := by decide +kernel
theorem dX7_twins_30 : decode cX7_twins 30 = .ok (.iconst 0, 1) := by decide +kernel
theorem dX7_twins_31 : decode cX7_twins 31 = .ok (.istore 5, 2) := by decide +kernel
theorem dX7_twins_33 : decode cX7_twins 33 = .ok (.iload 5, 2) := by decide +kernel
theorem dX7_twins_35 : decode cX7_twins 35 = .ok (.iload_n 3, 1) := by decide +kernel
theorem dX7_twins_36 : decode cX7_twins 36 = .ok (.if_icmp .ge 98, 3) := by decide +kernel
theorem dX7_twins_39 : decode cX7_twins 39 = .ok (.aload_n 0, 1) := by decide +kernel
theorem dX7_twins_40 : decode cX7_twins 40 = .ok (.getfield 7, 3) := by decide +kernel
theorem dX7_twins_43 : decode cX7_twins 43 = .ok (.iload 5, 2) := by decide +kernel
theorem dX7_twins_45 : decode cX7_twins 45 = .ok (.laload, 1) := by decide +kernel
theorem dX7_twins_46 : decode cX7_twins 46 = .ok (.iload_n 1, 1) := by decide +kernel
theorem dX7_twins_47 : decode cX7_twins 47 = .ok (.i2l, 1) := by decide +kernel
theorem dX7_twins_48 : decode cX7_twins 48 = .ok (.invokestatic 59, 3) := by decide +kernel
theorem dX7_twins_51 : decode cX7_twins 51 = .ok (.invokestatic 37, 3) := by decide +kernel
theorem dX7_twins_54 : decode cX7_twins 54 = .ok (.lstore 6, 2) := by decide +kernel
theorem dX7_twins_56 : decode cX7_twins 56 = .ok (.iload 5, 2) := by decide +kernel
theorem dX7_twins_58 : decode cX7_twins 58 = .ok (.iconst 1, 1) := by decide +kernel
theorem dX7_twins_59 : decode cX7_twins 59 = .ok (.iadd, 1) := by decide +kernel
theorem dX7_twins_60 : decode cX7_twins 60 = .ok (.istore 8, 2) := by decide +kernel
theorem dX7_twins_62 : decode cX7_twins 62 = .ok (.iload 8, 2) := by decide +kernel
theorem dX7_twins_64 : decode cX7_twins 64 = .ok (.iload_n 3, 1) := by decide +kernel
theorem dX7_twins_65 : decode cX7_twins 65 = .ok (.if_icmp .ge 63, 3) := by decide +kernel
theorem dX7_twins_68 : decode cX7_twins 68 = .ok (.aload_n 0, 1) := by decide +kernel
theorem dX7_twins_69 : decode cX7_twins 69 = .ok (.getfield 7, 3) := by decide +kernel
theorem dX7_twins_72 : decode cX7_twins 72 = .ok (.iload 8, 2) := by decide +kernel
theorem dX7_twins_74 : decode cX7_twins 74 = .ok (.laload, 1) := by decide +kernel
theorem dX7_twins_75 : decode cX7_twins 75 = .ok (.iload_n 1, 1) := by decide +kernel
theorem dX7_twins_76 : decode cX7_twins 76 = .ok (.i2l, 1) := by decide +kernel
theorem dX7_twins_77 : decode cX7_twins 77 = .ok (.invokestatic 59, 3) := by decide +kernel
theorem dX7_twins_80 : decode cX7_twins 80 = .ok (.invokestatic 37, 3) := by decide +kernel
theorem dX7_twins_83 : decode cX7_twins 83 = .ok (.lload 6, 2) := by decide +kernel
theorem dX7_twins_85 : decode cX7_twins 85 = .ok (.lcmp, 1) := by decide +kernel
theorem dX7_twins_86 : decode cX7_twins 86 = .ok (.ifCond .eq 6, 3) := by decide +kernel
theorem dX7_twins_89 : decode cX7_twins 89 = .ok (.goto 33, 3) := by decide +kernel
theorem dX7_twins_92 : decode cX7_twins 92 = .ok (.iload 4, 2) := by decide +kernel
theorem dX7_twins_94 : decode cX7_twins 94 = .ok (.iload_n 2, 1) := by decide +kernel
theorem dX7_twins_95 : decode cX7_twins 95 = .ok (.if_icmp .ne 24, 3) := by decide +kernel
theorem dX7_twins_98 : decode cX7_twins 98 = .ok (.ldc2_w 95, 3) := by decide +kernel
theorem dX7_twins_101 : decode cX7_twins 101 = .ok (.aload_n 0, 1) := by decide +kernel
theorem dX7_twins_102 : decode cX7_twins 102 = .ok (.getfield 7, 3) := by decide +kernel
theorem dX7_twins_105 : decode cX7_twins 105 = .ok (.iload 5, 2) := by decide +kernel
theorem dX7_twins_107 : decode cX7_twins 107 = .ok (.laload, 1) := by decide +kernel
theorem dX7_twins_108 : decode cX7_twins 108 = .ok (.lmul, 1) := by decide +kernel
theorem dX7_twins_109 : decode cX7_twins 109 = .ok (.aload_n 0, 1) := by decide +kernel
theorem dX7_twins_110 : decode cX7_twins 110 = .ok (.getfield 7, 3) := by decide +kernel
theorem dX7_twins_113 : decode cX7_twins 113 = .ok (.iload 8, 2) := by decide +kernel
theorem dX7_twins_115 : decode cX7_twins 115 = .ok (.laload, 1) := by decide +kernel
theorem dX7_twins_116 : decode cX7_twins 116 = .ok (.ladd, 1) := by decide +kernel
theorem dX7_twins_117 : decode cX7_twins 117 = .ok (.l2i, 1) := by decide +kernel
theorem dX7_twins_118 : decode cX7_twins 118 = .ok (.ireturn, 1) := by decide +kernel
theorem dX7_twins_119 : decode cX7_twins 119 = .ok (.iinc 4 1, 3) := by decide +kernel
theorem dX7_twins_122 : decode cX7_twins 122 = .ok (.iinc 8 1, 3) := by decide +kernel
theorem dX7_twins_125 : decode cX7_twins 125 = .ok (.goto (-63), 3) := by decide +kernel
theorem dX7_twins_128 : decode cX7_twins 128 = .ok (.iinc 5 1, 3) := by decide +kernel
theorem dX7_twins_131 : decode cX7_twins 131 = .ok (.goto (-98), 3) := by decide +kernel
theorem dX7_twins_134 : decode cX7_twins 134 = .ok (.iload_n 2, 1) := by decide +kernel
theorem dX7_twins_135 : decode cX7_twins 135 = .ok (.iconst (-1), 1) := by decide +kernel
theorem dX7_twins_136 : decode cX7_twins 136 = .ok (.if_icmp .ne 8, 3) := by decide +kernel
theorem dX7_twins_139 : decode cX7_twins 139 = .ok (.iload 4, 2) := by decide +kernel
theorem dX7_twins_141 : decode cX7_twins 141 = .ok (.goto 4, 3) := by decide +kernel
theorem dX7_twins_144 : decode cX7_twins 144 = .ok (.iconst (-1), 1) := by decide +kernel
theorem dX7_twins_145 : decode cX7_twins 145 = .ok (.ireturn, 1) := by decide +kernel
theorem dX7_put_0 : decode cX7_put 0 = .ok (.bipush 24, 2) := by decide +kernel
theorem dX7_put_2 : decode cX7_put 2 = .ok (.istore_n 2, 1) := by decide +kernel
theorem dX7_put_3 : decode cX7_put 3 = .ok (.iload_n 2, 1) := by decide +kernel
theorem dX7_put_4 : decode cX7_put 4 = .ok (.ifCond .lt 32, 3) := by decide +kernel
theorem dX7_put_7 : decode cX7_put 7 = .ok (.aload_n 0, 1) := by decide +kernel
theorem dX7_put_8 : decode cX7_put 8 = .ok (.getfield 13, 3) := by decide +kernel
theorem dX7_put_11 : decode cX7_put 11 = .ok (.aload_n 0, 1) := by decide +kernel
theorem dX7_put_12 : decode cX7_put 12 = .ok (.getfield 178, 3) := by decide +kernel
theorem dX7_put_15 : decode cX7_put 15 = .ok (.iload_n 1, 1) := by decide +kernel
theorem dX7_put_16 : decode cX7_put 16 = .ok (.iload_n 2, 1) := by decide +kernel
theorem dX7_put_17 : decode cX7_put 17 = .ok (.ishr, 1) := by decide +kernel
theorem dX7_put_18 : decode cX7_put 18 = .ok (.i2b, 1) := by decide +kernel
theorem dX7_put_19 : decode cX7_put 19 = .ok (.bastore, 1) := by decide +kernel
theorem dX7_put_20 : decode cX7_put 20 = .ok (.aload_n 0, 1) := by decide +kernel
theorem dX7_put_21 : decode cX7_put 21 = .ok (.dup, 1) := by decide +kernel
theorem dX7_put_22 : decode cX7_put 22 = .ok (.getfield 178, 3) := by decide +kernel
theorem dX7_put_25 : decode cX7_put 25 = .ok (.iconst 1, 1) := by decide +kernel
theorem dX7_put_26 : decode cX7_put 26 = .ok (.iadd, 1) := by decide +kernel
theorem dX7_put_27 : decode cX7_put 27 = .ok (.putfield 178, 3) := by decide +kernel
theorem dX7_put_30 : decode cX7_put 30 = .ok (.iinc 2 (-8), 3) := by decide +kernel
theorem dX7_put_33 : decode cX7_put 33 = .ok (.goto (-30), 3) := by decide +kernel
theorem dX7_put_36 : decode cX7_put 36 = .ok (.return_, 1) := by decide +kernel
set_option maxRecDepth 20000 in
theorem ggX7_feed_X7_put : GoodIn wsX7_feed wsX7_put := goodIn_r _ [7, 8, 2, 9, 10, 11, 12, 13, 14, 15, 16, 17, 18, 19, 20, 21, 22, 23, 24, 25, 26, 27, 28, 29, 30, 31, 32] (by decide +kernel) (by decide +kernel)
set_option maxRecDepth 20000 in
theorem gX7_feed_X7_put : GoodIn wsX7_feed (wsV RX7 181 RX7 yX7_put wsX7_put) := goodIn_app (goodIn_of _ (by decide +kernel)) ggX7_feed_X7_put
theorem dX7_feed_0 : decode cX7_feed 0 = .ok (.aload_n 0, 1) := by decide +kernel
theorem dX7_feed_1 : decode cX7_feed 1 = .ok (.iconst 0, 1) := by decide +kernel
theorem dX7_feed_2 : decode cX7_feed 2 = .ok (.putfield 33, 3) := by decide +kernel
theorem dX7_feed_5 : decode cX7_feed 5 = .ok (.aload_n 0, 1) := by decide +kernel
theorem dX7_feed_6 : decode cX7_feed 6 = .ok (.getfield 178, 3) := by decide +kernel
theorem dX7_feed_9 : decode cX7_feed 9 = .ok (.bipush 20, 2) := by decide +kernel
theorem dX7_feed_11 : decode cX7_feed 11 = .ok (.iadd, 1) := by decide +kernel
theorem dX7_feed_12 : decode cX7_feed 12 = .ok (.sipush 300, 3) := by decide +kernel
theorem dX7_feed_15 : decode cX7_feed 15 = .ok (.if_icmp .le 5, 3) := by decide +kernel
theorem dX7_feed_18 : decode cX7_feed 18 = .ok (.iconst (-1), 1) := by decide +kernel
theorem dX7_feed_19 : decode cX7_feed 19 = .ok (.ireturn, 1) := by decide +kernel
theorem dX7_feed_20 : decode cX7_feed 20 = .ok (.aload_n 0, 1) := by decide +kernel
theorem dX7_feed_21 : decode cX7_feed 21 = .ok (.iload_n 1, 1) := by decide +kernel
theorem dX7_feed_22 : decode cX7_feed 22 = .ok (.invokevirtual 181, 3) := by decide +kernel
theorem dX7_feed_25 : decode cX7_feed 25 = .ok (.aload_n 0, 1) := by decide +kernel
theorem dX7_feed_26 : decode cX7_feed 26 = .ok (.iload_n 2, 1) := by decide +kernel
theorem dX7_feed_27 : decode cX7_feed 27 = .ok (.invokevirtual 181, 3) := by decide +kernel
theorem dX7_feed_30 : decode cX7_feed 30 = .ok (.aload_n 0, 1) := by decide +kernel
theorem dX7_feed_31 : decode cX7_feed 31 = .ok (.iload_n 3, 1) := by decide +kernel
theorem dX7_feed_32 : decode cX7_feed 32 = .ok (.invokevirtual 181, 3) := by decide +kernel
theorem dX7_feed_35 : decode cX7_feed 35 = .ok (.aload_n 0, 1) := by decide +kernel
theorem dX7_feed_36 : decode cX7_feed 36 = .ok (.iload 4, 2) := by decide +kernel
theorem dX7_feed_38 : decode cX7_feed 38 = .ok (.invokevirtual 181, 3) := by decide +kernel
theorem dX7_feed_41 : decode cX7_feed 41 = .ok (.aload_n 0, 1) := by decide +kernel
theorem dX7_feed_42 : decode cX7_feed 42 = .ok (.iload 5, 2) := by decide +kernel
theorem dX7_feed_44 : decode cX7_feed 44 = .ok (.invokevirtual 181, 3) := by decide +kernel
theorem dX7_feed_47 : decode cX7_feed 47 = .ok (.aload_n 0, 1) := by decide +kernel
theorem dX7_feed_48 : decode cX7_feed 48 = .ok (.getfield 178, 3) := by decide +kernel
theorem dX7_feed_51 : decode cX7_feed 51 = .ok (.ireturn, 1) := by decide +kernel
set_option maxRecDepth 20000 in
theorem ggX7_end_X7_isIn : GoodIn wsX7_end wsX7_isIn := goodIn_r _ [6] (by decide +kernel) (by decide +kernel)
set_option maxRecDepth 20000 in
theorem gX7_end_X7_isIn : GoodIn wsX7_end (va_wsS RX7 72 yX7_isIn wsX7_isIn) := goodIn_app (goodIn_of _ (by decide +kernel)) ggX7_end_X7_isIn
theorem dX7_end_0 : decode cX7_end 0 = .ok (.aload_n 0, 1) := by decide +kernel
theorem dX7_end_1 : decode cX7_end 1 = .ok (.iconst 0, 1) := by decide +kernel
theorem dX7_end_2 : decode cX7_end 2 = .ok (.putfield 33, 3) := by decide +kernel
theorem dX7_end_5 : decode cX7_end 5 = .ok (.iload_n 1, 1) := by decide +kernel
theorem dX7_end_6 : decode cX7_end 6 = .ok (.i2l, 1) := by decide +kernel
theorem dX7_end_7 : decode cX7_end 7 = .ok (.lconst 0, 1) := by decide +kernel
theorem dX7_end_8 : decode cX7_end 8 = .ok (.aload_n 0, 1) := by decide +kernel
theorem dX7_end_9 : decode cX7_end 9 = .ok (.getfield 178, 3) := by decide +kernel
theorem dX7_end_12 : decode cX7_end 12 = .ok (.i2l, 1) := by decide +kernel
theorem dX7_end_13 : decode cX7_end 13 = .ok (.invokestatic 72, 3) := by decide +kernel
theorem dX7_end_16 : decode cX7_end 16 = .ok (.ifCond .ne 5, 3) := by decide +kernel
theorem dX7_end_19 : decode cX7_end 19 = .ok (.iconst 0, 1) := by decide +kernel
theorem dX7_end_20 : decode cX7_end 20 = .ok (.ireturn, 1) := by decide +kernel
theorem dX7_end_21 : decode cX7_end 21 = .ok (.aload_n 0, 1) := by decide +kernel
theorem dX7_end_22 : decode cX7_end 22 = .ok (.iload_n 1, 1) := by decide +kernel
theorem dX7_end_23 : decode cX7_end 23 = .ok (.putfield 178, 3) := by decide +kernel
theorem dX7_end_26 : decode cX7_end 26 = .ok (.iconst 1, 1) := by decide +kernel
theorem dX7_end_27 : decode cX7_end 27 = .ok (.ireturn, 1) := by decide +kernel
theorem dX7_here_0 : decode cX7_here 0 = .ok (.aload_n 0, 1) := by decide +kernel
theorem dX7_here_1 : decode cX7_here 1 = .ok (.getfield 185, 3) := by decide +kernel
theorem dX7_here_4 : decode cX7_here 4 = .ok (.aload_n 0, 1) := by decide +kernel
theorem dX7_here_5 : decode cX7_here 5 = .ok (.getfield 188, 3) := by decide +kernel
theorem dX7_here_8 : decode cX7_here 8 = .ok (.if_icmp .ge 44, 3) := by decide +kernel
theorem dX7_here_11 : decode cX7_here 11 = .ok (.aload_n 0, 1) := by decide +kernel
theorem dX7_here_12 : decode cX7_here 12 = .ok (.getfield 13, 3) := by decide +kernel
theorem dX7_here_15 : decode cX7_here 15 = .ok (.aload_n 0, 1) := by decide +kernel
theorem dX7_here_16 : decode cX7_here 16 = .ok (.getfield 185, 3) := by decide +kernel
theorem dX7_here_19 : decode cX7_here 19 = .ok (.baload, 1) := by decide +kernel
theorem dX7_here_20 : decode cX7_here 20 = .ok (.bipush 32, 2) := by decide +kernel
theorem dX7_here_22 : decode cX7_here 22 = .ok (.if_icmp .eq 17, 3) := by decide +kernel
theorem dX7_here_25 : decode cX7_here 25 = .ok (.aload_n 0, 1) := by decide +kernel
theorem dX7_here_26 : decode cX7_here 26 = .ok (.getfield 13, 3) := by decide +kernel
theorem dX7_here_29 : decode cX7_here 29 = .ok (.aload_n 0, 1) := by decide +kernel
theorem dX7_here_30 : decode cX7_here 30 = .ok (.getfield 185, 3) := by decide +kernel
theorem dX7_here_33 : decode cX7_here 33 = .ok (.baload, 1) := by decide +kernel
theorem dX7_here_34 : decode cX7_here 34 = .ok (.bipush 10, 2) := by decide +kernel
theorem dX7_here_36 : decode cX7_here 36 = .ok (.if_icmp .ne 16, 3) := by decide +kernel
theorem dX7_here_39 : decode cX7_here 39 = .ok (.aload_n 0, 1) := by decide +kernel
theorem dX7_here_40 : decode cX7_here 40 = .ok (.dup, 1) := by decide +kernel
theorem dX7_here_41 : decode cX7_here 41 = .ok (.getfield 185, 3) := by decide +kernel
theorem dX7_here_44 : decode cX7_here 44 = .ok (.iconst 1, 1) := by decide +kernel
theorem dX7_here_45 : decode cX7_here 45 = .ok (.iadd, 1) := by decide +kernel
theorem dX7_here_46 : decode cX7_here 46 = .ok (.putfield 185, 3) := by decide +kernel
theorem dX7_here_49 : decode cX7_here 49 = .ok (.goto (-49), 3) := by decide +kernel
theorem dX7_here_52 : decode cX7_here 52 = .ok (.aload_n 0, 1) := by decide +kernel
theorem dX7_here_53 : decode cX7_here 53 = .ok (.getfield 185, 3) := by decide +kernel
theorem dX7_here_56 : decode cX7_here 56 = .ok (.aload_n 0, 1) := by decide +kernel
theorem dX7_here_57 : decode cX7_here 57 = .ok (.getfield 188, 3) := by decide +kernel
theorem dX7_here_60 : decode cX7_here 60 = .ok (.if_icmp .ge 19, 3) := by decide +kernel
theorem dX7_here_63 : decode cX7_here 63 = .ok (.aload_n 0, 1) := by decide +kernel
theorem dX7_here_64 : decode cX7_here 64 = .ok (.getfield 13, 3) := by decide +kernel
theorem dX7_here_67 : decode cX7_here 67 = .ok (.aload_n 0, 1) := by decide +kernel
theorem dX7_here_68 : decode cX7_here 68 = .ok (.getfield 185, 3) := by decide +kernel
theorem dX7_here_71 : decode cX7_here 71 = .ok (.baload, 1) := by decide +kernel
theorem dX7_here_72 : decode cX7_here 72 = .ok (.sipush 255, 3) := by decide +kernel
theorem dX7_here_75 : decode cX7_here 75 = .ok (.iand, 1) := by decide +kernel
theorem dX7_here_76 : decode cX7_here 76 = .ok (.goto 4, 3) := by decide +kernel
theorem dX7_here_79 : decode cX7_here 79 = .ok (.iconst (-1), 1) := by decide +kernel
theorem dX7_here_80 : decode cX7_here 80 = .ok (.ireturn, 1) := by decide +kernel
theorem dX7_fails_0 : decode cX7_fails 0 = .ok (.aload_n 0, 1) := by decide +kernel
theorem dX7_fails_1 : decode cX7_fails 1 = .ok (.getfield 191, 3) := by decide +kernel
theorem dX7_fails_4 : decode cX7_fails 4 = .ok (.ifCond .ne 13, 3) := by decide +kernel
theorem dX7_fails_7 : decode cX7_fails 7 = .ok (.aload_n 0, 1) := by decide +kernel
theorem dX7_fails_8 : decode cX7_fails 8 = .ok (.iload_n 1, 1) := by decide +kernel
theorem dX7_fails_9 : decode cX7_fails 9 = .ok (.bipush 8, 2) := by decide +kernel
theorem dX7_fails_11 : decode cX7_fails 11 = .ok (.iload_n 2, 1) := by decide +kernel
theorem dX7_fails_12 : decode cX7_fails 12 = .ok (.imul, 1) := by decide +kernel
theorem dX7_fails_13 : decode cX7_fails 13 = .ok (.iadd, 1) := by decide +kernel
theorem dX7_fails_14 : decode cX7_fails 14 = .ok (.putfield 191, 3) := by decide +kernel
theorem dX7_fails_17 : decode cX7_fails 17 = .ok (.return_, 1) := by decide +kernel
set_option maxRecDepth 20000 in
theorem ggX7_piles_X7_size : GoodIn wsX7_piles wsX7_size := goodIn_r _ [11] (by decide +kernel) (by decide +kernel)
set_option maxRecDepth 20000 in
theorem gX7_piles_X7_size : GoodIn wsX7_piles (va_wsS RX7 37 yX7_size wsX7_size) := goodIn_app (goodIn_of _ (by decide +kernel)) ggX7_piles_X7_size
theorem dX7_piles_0 : decode cX7_piles 0 = .ok (.aload_n 0, 1) := by decide +kernel
theorem dX7_piles_1 : decode cX7_piles 1 = .ok (.getfield 48, 3) := by decide +kernel
theorem dX7_piles_4 : decode cX7_piles 4 = .ok (.invokestatic 37, 3) := by decide +kernel
theorem dX7_piles_7 : decode cX7_piles 7 = .ok (.ldc2_w 70, 3) := by decide +kernel
theorem dX7_piles_10 : decode cX7_piles 10 = .ok (.lcmp, 1) := by decide +kernel
theorem dX7_piles_11 : decode cX7_piles 11 = .ok (.ifCond .gt 14, 3) := by decide +kernel
theorem dX7_piles_14 : decode cX7_piles 14 = .ok (.aload_n 0, 1) := by decide +kernel
theorem dX7_piles_15 : decode cX7_piles 15 = .ok (.getfield 51, 3) := by decide +kernel
theorem dX7_piles_18 : decode cX7_piles 18 = .ok (.ldc2_w 70, 3) := by decide +kernel
theorem dX7_piles_21 : decode cX7_piles 21 = .ok (.lcmp, 1) := by decide +kernel
theorem dX7_piles_22 : decode cX7_piles 22 = .ok (.ifCond .le 7, 3) := by decide +kernel
theorem dX7_piles_25 : decode cX7_piles 25 = .ok (.iconst 1, 1) := by decide +kernel
theorem dX7_piles_26 : decode cX7_piles 26 = .ok (.goto 4, 3) := by decide +kernel
theorem dX7_piles_29 : decode cX7_piles 29 = .ok (.iconst 0, 1) := by decide +kernel
theorem dX7_piles_30 : decode cX7_piles 30 = .ok (.istore_n 2, 1) := by decide +kernel
theorem dX7_piles_31 : decode cX7_piles 31 = .ok (.iload_n 2, 1) := by decide +kernel
theorem dX7_piles_32 : decode cX7_piles 32 = .ok (.ifCond .eq 16, 3) := by decide +kernel
theorem dX7_piles_35 : decode cX7_piles 35 = .ok (.aload_n 0, 1) := by decide +kernel
theorem dX7_piles_36 : decode cX7_piles 36 = .ok (.getfield 194, 3) := by decide +kernel
theorem dX7_piles_39 : decode cX7_piles 39 = .ok (.iconst (-1), 1) := by decide +kernel
theorem dX7_piles_40 : decode cX7_piles 40 = .ok (.if_icmp .ne 8, 3) := by decide +kernel
theorem dX7_piles_43 : decode cX7_piles 43 = .ok (.aload_n 0, 1) := by decide +kernel
theorem dX7_piles_44 : decode cX7_piles 44 = .ok (.iload_n 1, 1) := by decide +kernel
theorem dX7_piles_45 : decode cX7_piles 45 = .ok (.putfield 194, 3) := by decide +kernel
theorem dX7_piles_48 : decode cX7_piles 48 = .ok (.aload_n 0, 1) := by decide +kernel
theorem dX7_piles_49 : decode cX7_piles 49 = .ok (.getfield 17, 3) := by decide +kernel
theorem dX7_piles_52 : decode cX7_piles 52 = .ok (.aload_n 0, 1) := by decide +kernel
theorem dX7_piles_53 : decode cX7_piles 53 = .ok (.getfield 197, 3) := by decide +kernel
theorem dX7_piles_56 : decode cX7_piles 56 = .ok (.iload_n 2, 1) := by decide +kernel
theorem dX7_piles_57 : decode cX7_piles 57 = .ok (.ifCond .eq 7, 3) := by decide +kernel
theorem dX7_piles_60 : decode cX7_piles 60 = .ok (.lconst 0, 1) := by decide +kernel
theorem dX7_piles_61 : decode cX7_piles 61 = .ok (.goto 7, 3) := by decide +kernel
theorem dX7_piles_64 : decode cX7_piles 64 = .ok (.aload_n 0, 1) := by decide +kernel
theorem dX7_piles_65 : decode cX7_piles 65 = .ok (.getfield 48, 3) := by decide +kernel
theorem dX7_piles_68 : decode cX7_piles 68 = .ok (.lastore, 1) := by decide +kernel
theorem dX7_piles_69 : decode cX7_piles 69 = .ok (.aload_n 0, 1) := by decide +kernel
theorem dX7_piles_70 : decode cX7_piles 70 = .ok (.getfield 20, 3) := by decide +kernel
theorem dX7_piles_73 : decode cX7_piles 73 = .ok (.aload_n 0, 1) := by decide +kernel
theorem dX7_piles_74 : decode cX7_piles 74 = .ok (.getfield 197, 3) := by decide +kernel
theorem dX7_piles_77 : decode cX7_piles 77 = .ok (.iload_n 2, 1) := by decide +kernel
theorem dX7_piles_78 : decode cX7_piles 78 = .ok (.ifCond .eq 7, 3) := by decide +kernel
theorem dX7_piles_81 : decode cX7_piles 81 = .ok (.lconst 1, 1) := by decide +kernel
theorem dX7_piles_82 : decode cX7_piles 82 = .ok (.goto 7, 3) := by decide +kernel
theorem dX7_piles_85 : decode cX7_piles 85 = .ok (.aload_n 0, 1) := by decide +kernel
theorem dX7_piles_86 : decode cX7_piles 86 = .ok (.getfield 51, 3) := by decide +kernel
theorem dX7_piles_89 : decode cX7_piles 89 = .ok (.lastore, 1) := by decide +kernel
theorem dX7_piles_90 : decode cX7_piles 90 = .ok (.aload_n 0, 1) := by decide +kernel
theorem dX7_piles_91 : decode cX7_piles 91 = .ok (.dup, 1) := by decide +kernel
theorem dX7_piles_92 : decode cX7_piles 92 = .ok (.getfield 197, 3) := by decide +kernel
theorem dX7_piles_95 : decode cX7_piles 95 = .ok (.iconst 1, 1) := by decide +kernel
theorem dX7_piles_96 : decode cX7_piles 96 = .ok (.iadd, 1) := by decide +kernel
theorem dX7_piles_97 : decode cX7_piles 97 = .ok (.putfield 197, 3) := by decide +kernel
theorem dX7_piles_100 : decode cX7_piles 100 = .ok (.return_, 1) := by decide +kernel
set_option maxRecDepth 20000 in
theorem ggX7_number_X7_here : GoodIn wsX7_number wsX7_here := goodIn_r _ [14, 1, 4, 5, 22, 23, 24, 25, 26, 27, 28, 29, 30, 31, 32, 33, 34, 35, 36, 37, 38, 39, 40, 41, 42, 43, 44, 45] (by decide +kernel) (by decide +kernel)
set_option maxRecDepth 20000 in
theorem gX7_number_X7_here : GoodIn wsX7_number (wsV RX7 200 RX7 yX7_here wsX7_here) := goodIn_app (goodIn_of _ (by decide +kernel)) ggX7_number_X7_here
set_option maxRecDepth 20000 in
theorem ggX7_number_X7_isIn : GoodIn wsX7_number wsX7_isIn := goodIn_r _ [17] (by decide +kernel) (by decide +kernel)
set_option maxRecDepth 20000 in
theorem gX7_number_X7_isIn : GoodIn wsX7_number (va_wsS RX7 72 yX7_isIn wsX7_isIn) := goodIn_app (goodIn_of _ (by decide +kernel)) ggX7_number_X7_isIn
set_option maxRecDepth 20000 in
theorem ggX7_number_X7_fails : GoodIn wsX7_number wsX7_fails := goodIn_r _ [21, 3, 22, 23, 24, 25, 26, 27, 28, 29, 30, 31, 32, 33, 34, 35, 36, 37, 38, 39, 40, 41, 42, 43, 44, 45] (by decide +kernel) (by decide +kernel)
set_option maxRecDepth 20000 in
theorem gX7_number_X7_fails : GoodIn wsX7_number (wsV RX7 215 RX7 yX7_fails wsX7_fails) := goodIn_app (goodIn_of _ (by decide +kernel)) ggX7_number_X7_fails
theorem dX7_number_0 : decode cX7_number 0 = .ok (.aload_n 0, 1) := by decide +kernel
theorem dX7_number_1 : decode cX7_number 1 = .ok (.invokevirtual 200, 3) := by decide +kernel
theorem dX7_number_4 : decode cX7_number 4 = .ok (.pop, 1) := by decide +kernel
theorem dX7_number_5 : decode cX7_number 5 = .ok (.aload_n 0, 1) := by decide +kernel
theorem dX7_number_6 : decode cX7_number 6 = .ok (.aload_n 0, 1) := by decide +kernel
theorem dX7_number_7 : decode cX7_number 7 = .ok (.getfield 185, 3) := by decide +kernel
theorem dX7_number_10 : decode cX7_number 10 = .ok (.putfield 204, 3) := by decide +kernel
theorem dX7_number_13 : decode cX7_number 13 = .ok (.aload_n 0, 1) := by decide +kernel
theorem dX7_number_14 : decode cX7_number 14 = .ok (.getfield 191, 3) := by decide +kernel
theorem dX7_number_17 : decode cX7_number 17 = .ok (.ifCond .eq 5, 3) := by decide +kernel
theorem dX7_number_20 : decode cX7_number 20 = .ok (.lconst 0, 1) := by decide +kernel
theorem dX7_number_21 : decode cX7_number 21 = .ok (.lreturn, 1) := by decide +kernel
theorem dX7_number_22 : decode cX7_number 22 = .ok (.lconst 0, 1) := by decide +kernel
theorem dX7_number_23 : decode cX7_number 23 = .ok (.lstore_n 1, 1) := by decide +kernel
theorem dX7_number_24 : decode cX7_number 24 = .ok (.aload_n 0, 1) := by decide +kernel
theorem dX7_number_25 : decode cX7_number 25 = .ok (.getfield 185, 3) := by decide +kernel
theorem dX7_number_28 : decode cX7_number 28 = .ok (.aload_n 0, 1) := by decide +kernel
theorem dX7_number_29 : decode cX7_number 29 = .ok (.getfield 188, 3) := by decide +kernel
theorem dX7_number_32 : decode cX7_number 32 = .ok (.if_icmp .ge 77, 3) := by decide +kernel
theorem dX7_number_35 : decode cX7_number 35 = .ok (.aload_n 0, 1) := by decide +kernel
theorem dX7_number_36 : decode cX7_number 36 = .ok (.getfield 13, 3) := by decide +kernel
theorem dX7_number_39 : decode cX7_number 39 = .ok (.aload_n 0, 1) := by decide +kernel
theorem dX7_number_40 : decode cX7_number 40 = .ok (.getfield 185, 3) := by decide +kernel
theorem dX7_number_43 : decode cX7_number 43 = .ok (.baload, 1) := by decide +kernel
theorem dX7_number_44 : decode cX7_number 44 = .ok (.i2l, 1) := by decide +kernel
theorem dX7_number_45 : decode cX7_number 45 = .ok (.ldc2_w 207, 3) := by decide +kernel
theorem dX7_number_48 : decode cX7_number 48 = .ok (.ldc2_w 209, 3) := by decide +kernel
theorem dX7_number_51 : decode cX7_number 51 = .ok (.invokestatic 72, 3) := by decide +kernel
theorem dX7_number_54 : decode cX7_number 54 = .ok (.ifCond .eq 55, 3) := by decide +kernel
theorem dX7_number_57 : decode cX7_number 57 = .ok (.aload_n 0, 1) := by decide +kernel
theorem dX7_number_58 : decode cX7_number 58 = .ok (.getfield 185, 3) := by decide +kernel
theorem dX7_number_61 : decode cX7_number 61 = .ok (.aload_n 0, 1) := by decide +kernel
theorem dX7_number_62 : decode cX7_number 62 = .ok (.getfield 204, 3) := by decide +kernel
theorem dX7_number_65 : decode cX7_number 65 = .ok (.isub, 1) := by decide +kernel
theorem dX7_number_66 : decode cX7_number 66 = .ok (.bipush 9, 2) := by decide +kernel
theorem dX7_number_68 : decode cX7_number 68 = .ok (.if_icmp .ge 26, 3) := by decide +kernel
theorem dX7_number_71 : decode cX7_number 71 = .ok (.ldc2_w 211, 3) := by decide +kernel
theorem dX7_number_74 : decode cX7_number 74 = .ok (.lload_n 1, 1) := by decide +kernel
theorem dX7_number_75 : decode cX7_number 75 = .ok (.lmul, 1) := by decide +kernel
theorem dX7_number_76 : decode cX7_number 76 = .ok (.aload_n 0, 1) := by decide +kernel
theorem dX7_number_77 : decode cX7_number 77 = .ok (.getfield 13, 3) := by decide +kernel
theorem dX7_number_80 : decode cX7_number 80 = .ok (.aload_n 0, 1) := by decide +kernel
theorem dX7_number_81 : decode cX7_number 81 = .ok (.getfield 185, 3) := by decide +kernel
theorem dX7_number_84 : decode cX7_number 84 = .ok (.baload, 1) := by decide +kernel
theorem dX7_number_85 : decode cX7_number 85 = .ok (.i2l, 1) := by decide +kernel
theorem dX7_number_86 : decode cX7_number 86 = .ok (.ladd, 1) := by decide +kernel
theorem dX7_number_87 : decode cX7_number 87 = .ok (.ldc2_w 207, 3) := by decide +kernel
theorem dX7_number_90 : decode cX7_number 90 = .ok (.lsub, 1) := by decide +kernel
theorem dX7_number_91 : decode cX7_number 91 = .ok (.goto 4, 3) := by decide +kernel
theorem dX7_number_94 : decode cX7_number 94 = .ok (.lload_n 1, 1) := by decide +kernel
theorem dX7_number_95 : decode cX7_number 95 = .ok (.lstore_n 1, 1) := by decide +kernel
theorem dX7_number_96 : decode cX7_number 96 = .ok (.aload_n 0, 1) := by decide +kernel
theorem dX7_number_97 : decode cX7_number 97 = .ok (.dup, 1) := by decide +kernel
theorem dX7_number_98 : decode cX7_number 98 = .ok (.getfield 185, 3) := by decide +kernel
theorem dX7_number_101 : decode cX7_number 101 = .ok (.iconst 1, 1) := by decide +kernel
theorem dX7_number_102 : decode cX7_number 102 = .ok (.iadd, 1) := by decide +kernel
theorem dX7_number_103 : decode cX7_number 103 = .ok (.putfield 185, 3) := by decide +kernel
theorem dX7_number_106 : decode cX7_number 106 = .ok (.goto (-82), 3) := by decide +kernel
theorem dX7_number_109 : decode cX7_number 109 = .ok (.aload_n 0, 1) := by decide +kernel
theorem dX7_number_110 : decode cX7_number 110 = .ok (.getfield 185, 3) := by decide +kernel
theorem dX7_number_113 : decode cX7_number 113 = .ok (.aload_n 0, 1) := by decide +kernel
theorem dX7_number_114 : decode cX7_number 114 = .ok (.getfield 204, 3) := by decide +kernel
theorem dX7_number_117 : decode cX7_number 117 = .ok (.isub, 1) := by decide +kernel
theorem dX7_number_118 : decode cX7_number 118 = .ok (.i2l, 1) := by decide +kernel
theorem dX7_number_119 : decode cX7_number 119 = .ok (.lconst 1, 1) := by decide +kernel
theorem dX7_number_120 : decode cX7_number 120 = .ok (.ldc2_w 213, 3) := by decide +kernel
theorem dX7_number_123 : decode cX7_number 123 = .ok (.invokestatic 72, 3) := by decide +kernel
theorem dX7_number_126 : decode cX7_number 126 = .ok (.ifCond .ne 12, 3) := by decide +kernel
theorem dX7_number_129 : decode cX7_number 129 = .ok (.aload_n 0, 1) := by decide +kernel
theorem dX7_number_130 : decode cX7_number 130 = .ok (.iconst 1, 1) := by decide +kernel
theorem dX7_number_131 : decode cX7_number 131 = .ok (.aload_n 0, 1) := by decide +kernel
theorem dX7_number_132 : decode cX7_number 132 = .ok (.getfield 204, 3) := by decide +kernel
theorem dX7_number_135 : decode cX7_number 135 = .ok (.invokevirtual 215, 3) := by decide +kernel
theorem dX7_number_138 : decode cX7_number 138 = .ok (.lload_n 1, 1) := by decide +kernel
theorem dX7_number_139 : decode cX7_number 139 = .ok (.lreturn, 1) := by decide +kernel
set_option maxRecDepth 20000 in
theorem ggX7_sign_X7_here : GoodIn wsX7_sign wsX7_here := goodIn_r _ [7, 2, 8, 9, 14, 15, 16, 17, 18, 19, 20, 21, 22, 23, 24, 25, 26, 27, 28, 29, 30, 31, 32, 33, 34, 35, 36, 37] (by decide +kernel) (by decide +kernel)
set_option maxRecDepth 20000 in
theorem gX7_sign_X7_here : GoodIn wsX7_sign (wsV RX7 200 RX7 yX7_here wsX7_here) := goodIn_app (goodIn_of _ (by decide +kernel)) ggX7_sign_X7_here
set_option maxRecDepth 20000 in
theorem ggX7_sign_X7_fails : GoodIn wsX7_sign wsX7_fails := goodIn_r _ [13, 1, 14, 15, 16, 17, 18, 19, 20, 21, 22, 23, 24, 25, 26, 27, 28, 29, 30, 31, 32, 33, 34, 35, 36, 37] (by decide +kernel) (by decide +kernel)
set_option maxRecDepth 20000 in
theorem gX7_sign_X7_fails : GoodIn wsX7_sign (wsV RX7 215 RX7 yX7_fails wsX7_fails) := goodIn_app (goodIn_of _ (by decide +kernel)) ggX7_sign_X7_fails
theorem dX7_sign_0 : decode cX7_sign 0 = .ok (.aload_n 0, 1) := by decide +kernel
theorem dX7_sign_1 : decode cX7_sign 1 = .ok (.getfield 191, 3) := by decide +kernel
theorem dX7_sign_4 : decode cX7_sign 4 = .ok (.ifCond .ne 20, 3) := by decide +kernel
theorem dX7_sign_7 : decode cX7_sign 7 = .ok (.aload_n 0, 1) := by decide +kernel
theorem dX7_sign_8 : decode cX7_sign 8 = .ok (.invokevirtual 200, 3) := by decide +kernel
theorem dX7_sign_11 : decode cX7_sign 11 = .ok (.iload_n 1, 1) := by decide +kernel
theorem dX7_sign_12 : decode cX7_sign 12 = .ok (.if_icmp .eq 12, 3) := by decide +kernel
theorem dX7_sign_15 : decode cX7_sign 15 = .ok (.aload_n 0, 1) := by decide +kernel
theorem dX7_sign_16 : decode cX7_sign 16 = .ok (.iconst 1, 1) := by decide +kernel
theorem dX7_sign_17 : decode cX7_sign 17 = .ok (.aload_n 0, 1) := by decide +kernel
theorem dX7_sign_18 : decode cX7_sign 18 = .ok (.getfield 185, 3) := by decide +kernel
theorem dX7_sign_21 : decode cX7_sign 21 = .ok (.invokevirtual 215, 3) := by decide +kernel
theorem dX7_sign_24 : decode cX7_sign 24 = .ok (.aload_n 0, 1) := by decide +kernel
theorem dX7_sign_25 : decode cX7_sign 25 = .ok (.dup, 1) := by decide +kernel
theorem dX7_sign_26 : decode cX7_sign 26 = .ok (.getfield 185, 3) := by decide +kernel
theorem dX7_sign_29 : decode cX7_sign 29 = .ok (.iconst 1, 1) := by decide +kernel
theorem dX7_sign_30 : decode cX7_sign 30 = .ok (.iadd, 1) := by decide +kernel
theorem dX7_sign_31 : decode cX7_sign 31 = .ok (.putfield 185, 3) := by decide +kernel
theorem dX7_sign_34 : decode cX7_sign 34 = .ok (.return_, 1) := by decide +kernel
set_option maxRecDepth 20000 in
theorem ggX7_opens_X7_here : GoodIn wsX7_opens wsX7_here := goodIn_r _ [8, 2, 9, 10, 15, 16, 17, 18, 19, 20, 21, 22, 23, 24, 25, 26, 27, 28, 29, 30, 31, 32, 33, 34, 35, 36, 37, 38] (by decide +kernel) (by decide +kernel)
set_option maxRecDepth 20000 in
theorem gX7_opens_X7_here : GoodIn wsX7_opens (wsV RX7 200 RX7 yX7_here wsX7_here) := goodIn_app (goodIn_of _ (by decide +kernel)) ggX7_opens_X7_here
set_option maxRecDepth 20000 in
theorem ggX7_opens_X7_fails : GoodIn wsX7_opens wsX7_fails := goodIn_r _ [14, 1, 15, 16, 17, 18, 19, 20, 21, 22, 23, 24, 25, 26, 27, 28, 29, 30, 31, 32, 33, 34, 35, 36, 37, 38] (by decide +kernel) (by decide +kernel)
set_option maxRecDepth 20000 in
theorem gX7_opens_X7_fails : GoodIn wsX7_opens (wsV RX7 215 RX7 yX7_fails wsX7_fails) := goodIn_app (goodIn_of _ (by decide +kernel)) ggX7_opens_X7_fails
theorem dX7_opens_0 : decode cX7_opens 0 = .ok (.aload_n 0, 1) := by decide +kernel
theorem dX7_opens_1 : decode cX7_opens 1 = .ok (.getfield 191, 3) := by decide +kernel
theorem dX7_opens_4 : decode cX7_opens 4 = .ok (.ifCond .ne 21, 3) := by decide +kernel
theorem dX7_opens_7 : decode cX7_opens 7 = .ok (.aload_n 0, 1) := by decide +kernel
theorem dX7_opens_8 : decode cX7_opens 8 = .ok (.invokevirtual 200, 3) := by decide +kernel
theorem dX7_opens_11 : decode cX7_opens 11 = .ok (.bipush 40, 2) := by decide +kernel
theorem dX7_opens_13 : decode cX7_opens 13 = .ok (.if_icmp .eq 12, 3) := by decide +kernel
theorem dX7_opens_16 : decode cX7_opens 16 = .ok (.aload_n 0, 1) := by decide +kernel
theorem dX7_opens_17 : decode cX7_opens 17 = .ok (.iconst 1, 1) := by decide +kernel
theorem dX7_opens_18 : decode cX7_opens 18 = .ok (.aload_n 0, 1) := by decide +kernel
theorem dX7_opens_19 : decode cX7_opens 19 = .ok (.getfield 185, 3) := by decide +kernel
theorem dX7_opens_22 : decode cX7_opens 22 = .ok (.invokevirtual 215, 3) := by decide +kernel
theorem dX7_opens_25 : decode cX7_opens 25 = .ok (.aload_n 0, 1) := by decide +kernel
theorem dX7_opens_26 : decode cX7_opens 26 = .ok (.getfield 219, 3) := by decide +kernel
theorem dX7_opens_29 : decode cX7_opens 29 = .ok (.bipush 9, 2) := by decide +kernel
theorem dX7_opens_31 : decode cX7_opens 31 = .ok (.if_icmp .ne 12, 3) := by decide +kernel
theorem dX7_opens_34 : decode cX7_opens 34 = .ok (.aload_n 0, 1) := by decide +kernel
theorem dX7_opens_35 : decode cX7_opens 35 = .ok (.iconst 2, 1) := by decide +kernel
theorem dX7_opens_36 : decode cX7_opens 36 = .ok (.aload_n 0, 1) := by decide +kernel
theorem dX7_opens_37 : decode cX7_opens 37 = .ok (.getfield 185, 3) := by decide +kernel
theorem dX7_opens_40 : decode cX7_opens 40 = .ok (.invokevirtual 215, 3) := by decide +kernel
theorem dX7_opens_43 : decode cX7_opens 43 = .ok (.aload_n 0, 1) := by decide +kernel
theorem dX7_opens_44 : decode cX7_opens 44 = .ok (.dup, 1) := by decide +kernel
theorem dX7_opens_45 : decode cX7_opens 45 = .ok (.getfield 219, 3) := by decide +kernel
theorem dX7_opens_48 : decode cX7_opens 48 = .ok (.iconst 1, 1) := by decide +kernel
theorem dX7_opens_49 : decode cX7_opens 49 = .ok (.iadd, 1) := by decide +kernel
theorem dX7_opens_50 : decode cX7_opens 50 = .ok (.putfield 219, 3) := by decide +kernel
theorem dX7_opens_53 : decode cX7_opens 53 = .ok (.aload_n 0, 1) := by decide +kernel
theorem dX7_opens_54 : decode cX7_opens 54 = .ok (.dup, 1) := by decide +kernel
theorem dX7_opens_55 : decode cX7_opens 55 = .ok (.getfield 185, 3) := by decide +kernel
theorem dX7_opens_58 : decode cX7_opens 58 = .ok (.iconst 1, 1) := by decide +kernel
theorem dX7_opens_59 : decode cX7_opens 59 = .ok (.iadd, 1) := by decide +kernel
theorem dX7_opens_60 : decode cX7_opens 60 = .ok (.putfield 185, 3) := by decide +kernel
theorem dX7_opens_63 : decode cX7_opens 63 = .ok (.return_, 1) := by decide +kernel
set_option maxRecDepth 20000 in
theorem ggX7_closes_X7_sign : GoodIn wsX7_closes wsX7_sign := goodIn_r _ [6, 7, 8, 9, 10, 11, 5, 12, 13, 14, 15, 16, 17, 18, 19, 20, 21, 22, 23, 24, 25, 26, 27, 28, 29, 30, 31, 32, 33, 34, 35, 36, 37, 38, 39, 40, 41, 42] (by decide +kernel) (by decide +kernel)
set_option maxRecDepth 20000 in
theorem gX7_closes_X7_sign : GoodIn wsX7_closes (wsV RX7 222 RX7 yX7_sign wsX7_sign) := goodIn_app (goodIn_of _ (by decide +kernel)) ggX7_closes_X7_sign
theorem dX7_closes_0 : decode cX7_closes 0 = .ok (.aload_n 0, 1) := by decide +kernel
theorem dX7_closes_1 : decode cX7_closes 1 = .ok (.bipush 41, 2) := by decide +kernel
theorem dX7_closes_3 : decode cX7_closes 3 = .ok (.invokevirtual 222, 3) := by decide +kernel
theorem dX7_closes_6 : decode cX7_closes 6 = .ok (.aload_n 0, 1) := by decide +kernel
theorem dX7_closes_7 : decode cX7_closes 7 = .ok (.dup, 1) := by decide +kernel
theorem dX7_closes_8 : decode cX7_closes 8 = .ok (.getfield 219, 3) := by decide +kernel
theorem dX7_closes_11 : decode cX7_closes 11 = .ok (.iconst 1, 1) := by decide +kernel
theorem dX7_closes_12 : decode cX7_closes 12 = .ok (.isub, 1) := by decide +kernel
theorem dX7_closes_13 : decode cX7_closes 13 = .ok (.putfield 219, 3) := by decide +kernel
theorem dX7_closes_16 : decode cX7_closes 16 = .ok (.return_, 1) := by decide +kernel
set_option maxRecDepth 20000 in
theorem ggX7_whole_X7_here : GoodIn wsX7_whole wsX7_here := goodIn_r _ [6, 1, 7, 8, 26, 27, 28, 29, 30, 31, 32, 33, 34, 35, 36, 37, 38, 39, 40, 41, 42, 43, 44, 45, 46, 47, 48, 49] (by decide +kernel) (by decide +kernel)
set_option maxRecDepth 20000 in
theorem gX7_whole_X7_here : GoodIn wsX7_whole (wsV RX7 200 RX7 yX7_here wsX7_here) := goodIn_app (goodIn_of _ (by decide +kernel)) ggX7_whole_X7_here
set_option maxRecDepth 20000 in
theorem ggX7_whole_X7_number : GoodIn wsX7_whole wsX7_number := goodIn_r _ [12, 1, 13, 14, 7, 8, 15, 16, 17, 18, 2, 3, 4, 5, 6, 19, 20, 21, 22, 23, 24, 25, 26, 27, 28, 29, 30, 31, 32, 33, 34, 35, 36, 37, 38, 39, 40, 41, 42, 43, 44, 45, 46, 47, 48, 49] (by decide +kernel) (by decide +kernel)
set_option maxRecDepth 20000 in
theorem gX7_whole_X7_number : GoodIn wsX7_whole (wsV RX7 225 RX7 yX7_number wsX7_number) := goodIn_app (goodIn_of _ (by decide +kernel)) ggX7_whole_X7_number
theorem dX7_whole_0 : decode cX7_whole 0 = .ok (.aload_n 0, 1) := by decide +kernel
theorem dX7_whole_1 : decode cX7_whole 1 = .ok (.invokevirtual 200, 3) := by decide +kernel
theorem dX7_whole_4 : decode cX7_whole 4 = .ok (.bipush 45, 2) := by decide +kernel
theorem dX7_whole_6 : decode cX7_whole 6 = .ok (.if_icmp .ne 7, 3) := by decide +kernel
theorem dX7_whole_9 : decode cX7_whole 9 = .ok (.iconst 1, 1) := by decide +kernel
theorem dX7_whole_10 : decode cX7_whole 10 = .ok (.goto 4, 3) := by decide +kernel
theorem dX7_whole_13 : decode cX7_whole 13 = .ok (.iconst 0, 1) := by decide +kernel
theorem dX7_whole_14 : decode cX7_whole 14 = .ok (.istore_n 1, 1) := by decide +kernel
theorem dX7_whole_15 : decode cX7_whole 15 = .ok (.aload_n 0, 1) := by decide +kernel
theorem dX7_whole_16 : decode cX7_whole 16 = .ok (.dup, 1) := by decide +kernel
theorem dX7_whole_17 : decode cX7_whole 17 = .ok (.getfield 185, 3) := by decide +kernel
theorem dX7_whole_20 : decode cX7_whole 20 = .ok (.iload_n 1, 1) := by decide +kernel
theorem dX7_whole_21 : decode cX7_whole 21 = .ok (.ifCond .eq 7, 3) := by decide +kernel
theorem dX7_whole_24 : decode cX7_whole 24 = .ok (.iconst 1, 1) := by decide +kernel
theorem dX7_whole_25 : decode cX7_whole 25 = .ok (.goto 4, 3) := by decide +kernel
theorem dX7_whole_28 : decode cX7_whole 28 = .ok (.iconst 0, 1) := by decide +kernel
theorem dX7_whole_29 : decode cX7_whole 29 = .ok (.iadd, 1) := by decide +kernel
theorem dX7_whole_30 : decode cX7_whole 30 = .ok (.putfield 185, 3) := by decide +kernel
theorem dX7_whole_33 : decode cX7_whole 33 = .ok (.aload_n 0, 1) := by decide +kernel
theorem dX7_whole_34 : decode cX7_whole 34 = .ok (.invokevirtual 225, 3) := by decide +kernel
theorem dX7_whole_37 : decode cX7_whole 37 = .ok (.lstore_n 2, 1) := by decide +kernel
theorem dX7_whole_38 : decode cX7_whole 38 = .ok (.iload_n 1, 1) := by decide +kernel
theorem dX7_whole_39 : decode cX7_whole 39 = .ok (.ifCond .eq 8, 3) := by decide +kernel
theorem dX7_whole_42 : decode cX7_whole 42 = .ok (.lload_n 2, 1) := by decide +kernel
theorem dX7_whole_43 : decode cX7_whole 43 = .ok (.lneg, 1) := by decide +kernel
theorem dX7_whole_44 : decode cX7_whole 44 = .ok (.goto 4, 3) := by decide +kernel
theorem dX7_whole_47 : decode cX7_whole 47 = .ok (.lload_n 2, 1) := by decide +kernel
theorem dX7_whole_48 : decode cX7_whole 48 = .ok (.lreturn, 1) := by decide +kernel
set_option maxRecDepth 20000 in
theorem ggX7_laysDivided_X7_number : GoodIn wsX7_laysDivided wsX7_number := goodIn_r _ [8, 2, 1, 3, 9, 10, 11, 12, 13, 14, 15, 16, 17, 7, 18, 19, 20, 21, 22, 23, 24, 25, 47, 48, 49, 50, 51, 52, 53, 54, 55, 56, 57, 58, 59, 60, 61, 62, 63, 64, 65, 66, 67, 68, 69, 70] (by decide +kernel) (by decide +kernel)
set_option maxRecDepth 20000 in
theorem gX7_laysDivided_X7_number : GoodIn wsX7_laysDivided (wsV RX7 225 RX7 yX7_number wsX7_number) := goodIn_app (goodIn_of _ (by decide +kernel)) ggX7_laysDivided_X7_number
set_option maxRecDepth 20000 in
theorem ggX7_laysDivided_X7_here : GoodIn wsX7_laysDivided wsX7_here := goodIn_r _ [18, 2, 9, 10, 47, 48, 49, 50, 51, 52, 53, 54, 55, 56, 57, 58, 59, 60, 61, 62, 63, 64, 65, 66, 67, 68, 69, 70] (by decide +kernel) (by decide +kernel)
set_option maxRecDepth 20000 in
theorem gX7_laysDivided_X7_here : GoodIn wsX7_laysDivided (wsV RX7 200 RX7 yX7_here wsX7_here) := goodIn_app (goodIn_of _ (by decide +kernel)) ggX7_laysDivided_X7_here
set_option maxRecDepth 20000 in
theorem ggX7_laysDivided_X7_lays : GoodIn wsX7_laysDivided wsX7_lays := goodIn_r _ [29, 30, 31, 32, 33, 7, 34, 35, 36, 37, 47, 48, 49, 50, 51, 52, 53, 54, 55, 56, 57, 58, 59, 60, 61, 62, 63, 64, 65, 66, 67, 68, 69, 70] (by decide +kernel) (by decide +kernel)
set_option maxRecDepth 20000 in
theorem gX7_laysDivided_X7_lays : GoodIn wsX7_laysDivided (wsV RX7 64 RX7 yX7_lays wsX7_lays) := goodIn_app (goodIn_of _ (by decide +kernel)) ggX7_laysDivided_X7_lays
set_option maxRecDepth 20000 in
theorem ggX7_laysDivided_X7_piles : GoodIn wsX7_laysDivided wsX7_piles := goodIn_r _ [41, 30, 42, 31, 43, 44, 45, 46, 35, 36, 7, 37, 47, 48, 49, 50, 51, 52, 53, 54, 55, 56, 57, 58, 59, 60, 61, 62, 63, 64, 65, 66, 67, 68, 69, 70] (by decide +kernel) (by decide +kernel)
set_option maxRecDepth 20000 in
theorem gX7_laysDivided_X7_piles : GoodIn wsX7_laysDivided (wsV RX7 228 RX7 yX7_piles wsX7_piles) := goodIn_app (goodIn_of _ (by decide +kernel)) ggX7_laysDivided_X7_piles
set_option maxRecDepth 20000 in
theorem ggX7_laysDivided_X7_fails : GoodIn wsX7_laysDivided wsX7_fails := goodIn_r _ [25, 3, 47, 48, 49, 50, 51, 52, 53, 54, 55, 56, 57, 58, 59, 60, 61, 62, 63, 64, 65, 66, 67, 68, 69, 70] (by decide +kernel) (by decide +kernel)
set_option maxRecDepth 20000 in
theorem gX7_laysDivided_X7_fails : GoodIn wsX7_laysDivided (wsV RX7 215 RX7 yX7_fails wsX7_fails) := goodIn_app (goodIn_of _ (by decide +kernel)) ggX7_laysDivided_X7_fails
theorem dX7_laysDivided_0 : decode cX7_laysDivided 0 = .ok (.aload_n 0, 1) := by decide +kernel
theorem dX7_laysDivided_1 : decode cX7_laysDivided 1 = .ok (.invokevirtual 225, 3) := by decide +kernel
theorem dX7_laysDivided_4 : decode cX7_laysDivided 4 = .ok (.lstore_n 1, 1) := by decide +kernel
theorem dX7_laysDivided_5 : decode cX7_laysDivided 5 = .ok (.aload_n 0, 1) := by decide +kernel
theorem dX7_laysDivided_6 : decode cX7_laysDivided 6 = .ok (.invokevirtual 200, 3) := by decide +kernel
theorem dX7_laysDivided_9 : decode cX7_laysDivided 9 = .ok (.bipush 47, 2) := by decide +kernel
theorem dX7_laysDivided_11 : decode cX7_laysDivided 11 = .ok (.if_icmp .eq 18, 3) := by decide +kernel
theorem dX7_laysDivided_14 : decode cX7_laysDivided 14 = .ok (.aload_n 0, 1) := by decide +kernel
theorem dX7_laysDivided_15 : decode cX7_laysDivided 15 = .ok (.lload_n 1, 1) := by decide +kernel
theorem dX7_laysDivided_16 : decode cX7_laysDivided 16 = .ok (.lconst 1, 1) := by decide +kernel
theorem dX7_laysDivided_17 : decode cX7_laysDivided 17 = .ok (.invokevirtual 64, 3) := by decide +kernel
theorem dX7_laysDivided_20 : decode cX7_laysDivided 20 = .ok (.aload_n 0, 1) := by decide +kernel
theorem dX7_laysDivided_21 : decode cX7_laysDivided 21 = .ok (.aload_n 0, 1) := by decide +kernel
theorem dX7_laysDivided_22 : decode cX7_laysDivided 22 = .ok (.getfield 204, 3) := by decide +kernel
theorem dX7_laysDivided_25 : decode cX7_laysDivided 25 = .ok (.invokevirtual 228, 3) := by decide +kernel
theorem dX7_laysDivided_28 : decode cX7_laysDivided 28 = .ok (.return_, 1) := by decide +kernel
theorem dX7_laysDivided_29 : decode cX7_laysDivided 29 = .ok (.aload_n 0, 1) := by decide +kernel
theorem dX7_laysDivided_30 : decode cX7_laysDivided 30 = .ok (.getfield 185, 3) := by decide +kernel
theorem dX7_laysDivided_33 : decode cX7_laysDivided 33 = .ok (.istore_n 3, 1) := by decide +kernel
theorem dX7_laysDivided_34 : decode cX7_laysDivided 34 = .ok (.aload_n 0, 1) := by decide +kernel
theorem dX7_laysDivided_35 : decode cX7_laysDivided 35 = .ok (.dup, 1) := by decide +kernel
theorem dX7_laysDivided_36 : decode cX7_laysDivided 36 = .ok (.getfield 185, 3) := by decide +kernel
theorem dX7_laysDivided_39 : decode cX7_laysDivided 39 = .ok (.iconst 1, 1) := by decide +kernel
theorem dX7_laysDivided_40 : decode cX7_laysDivided 40 = .ok (.iadd, 1) := by decide +kernel
theorem dX7_laysDivided_41 : decode cX7_laysDivided 41 = .ok (.putfield 185, 3) := by decide +kernel
theorem dX7_laysDivided_44 : decode cX7_laysDivided 44 = .ok (.aload_n 0, 1) := by decide +kernel
theorem dX7_laysDivided_45 : decode cX7_laysDivided 45 = .ok (.invokevirtual 225, 3) := by decide +kernel
theorem dX7_laysDivided_48 : decode cX7_laysDivided 48 = .ok (.lstore 4, 2) := by decide +kernel
theorem dX7_laysDivided_50 : decode cX7_laysDivided 50 = .ok (.aload_n 0, 1) := by decide +kernel
theorem dX7_laysDivided_51 : decode cX7_laysDivided 51 = .ok (.getfield 191, 3) := by decide +kernel
theorem dX7_laysDivided_54 : decode cX7_laysDivided 54 = .ok (.ifCond .ne 19, 3) := by decide +kernel
theorem dX7_laysDivided_57 : decode cX7_laysDivided 57 = .ok (.lload 4, 2) := by decide +kernel
theorem dX7_laysDivided_59 : decode cX7_laysDivided 59 = .ok (.lconst 0, 1) := by decide +kernel
theorem dX7_laysDivided_60 : decode cX7_laysDivided 60 = .ok (.lcmp, 1) := by decide +kernel
theorem dX7_laysDivided_61 : decode cX7_laysDivided 61 = .ok (.ifCond .ne 12, 3) := by decide +kernel
theorem dX7_laysDivided_64 : decode cX7_laysDivided 64 = .ok (.aload_n 0, 1) := by decide +kernel
theorem dX7_laysDivided_65 : decode cX7_laysDivided 65 = .ok (.iconst 2, 1) := by decide +kernel
theorem dX7_laysDivided_66 : decode cX7_laysDivided 66 = .ok (.aload_n 0, 1) := by decide +kernel
theorem dX7_laysDivided_67 : decode cX7_laysDivided 67 = .ok (.getfield 204, 3) := by decide +kernel
theorem dX7_laysDivided_70 : decode cX7_laysDivided 70 = .ok (.invokevirtual 215, 3) := by decide +kernel
theorem dX7_laysDivided_73 : decode cX7_laysDivided 73 = .ok (.aload_n 0, 1) := by decide +kernel
theorem dX7_laysDivided_74 : decode cX7_laysDivided 74 = .ok (.lload_n 1, 1) := by decide +kernel
theorem dX7_laysDivided_75 : decode cX7_laysDivided 75 = .ok (.lload 4, 2) := by decide +kernel
theorem dX7_laysDivided_77 : decode cX7_laysDivided 77 = .ok (.lconst 0, 1) := by decide +kernel
theorem dX7_laysDivided_78 : decode cX7_laysDivided 78 = .ok (.lcmp, 1) := by decide +kernel
theorem dX7_laysDivided_79 : decode cX7_laysDivided 79 = .ok (.ifCond .ne 7, 3) := by decide +kernel
theorem dX7_laysDivided_82 : decode cX7_laysDivided 82 = .ok (.lconst 1, 1) := by decide +kernel
theorem dX7_laysDivided_83 : decode cX7_laysDivided 83 = .ok (.goto 5, 3) := by decide +kernel
theorem dX7_laysDivided_86 : decode cX7_laysDivided 86 = .ok (.lload 4, 2) := by decide +kernel
theorem dX7_laysDivided_88 : decode cX7_laysDivided 88 = .ok (.invokevirtual 64, 3) := by decide +kernel
theorem dX7_laysDivided_91 : decode cX7_laysDivided 91 = .ok (.aload_n 0, 1) := by decide +kernel
theorem dX7_laysDivided_92 : decode cX7_laysDivided 92 = .ok (.iload_n 3, 1) := by decide +kernel
theorem dX7_laysDivided_93 : decode cX7_laysDivided 93 = .ok (.invokevirtual 228, 3) := by decide +kernel
theorem dX7_laysDivided_96 : decode cX7_laysDivided 96 = .ok (.return_, 1) := by decide +kernel
set_option maxRecDepth 20000 in
theorem ggX7_laysWord_X7_isIn : GoodIn wsX7_laysWord wsX7_isIn := goodIn_r _ [15] (by decide +kernel) (by decide +kernel)
set_option maxRecDepth 20000 in
theorem gX7_laysWord_X7_isIn : GoodIn wsX7_laysWord (va_wsS RX7 72 yX7_isIn wsX7_isIn) := goodIn_app (goodIn_of _ (by decide +kernel)) ggX7_laysWord_X7_isIn
set_option maxRecDepth 20000 in
theorem ggX7_laysWord_X7_opens : GoodIn wsX7_laysWord wsX7_opens := goodIn_r _ [19, 6, 1, 20, 21, 22, 23, 14, 24, 2, 3, 25, 26, 27, 28, 122, 123, 124, 125, 126, 127, 128, 129, 130, 131, 132, 133, 134, 135, 136, 137, 138, 139, 140, 141, 142, 143, 144, 145] (by decide +kernel) (by decide +kernel)
set_option maxRecDepth 20000 in
theorem gX7_laysWord_X7_opens : GoodIn wsX7_laysWord (wsV RX7 235 RX7 yX7_opens wsX7_opens) := goodIn_app (goodIn_of _ (by decide +kernel)) ggX7_laysWord_X7_opens
set_option maxRecDepth 20000 in
theorem ggX7_laysWord_X7_sum_ : GoodIn wsX7_laysWord wsX7_sum_ := goodIn_r _ [102, 6, 1, 103, 104, 105, 14, 21, 22, 23, 24, 2, 3, 106, 107, 108, 109, 7, 8, 9, 47, 48, 49, 50, 44, 45, 51, 52, 53, 54, 55, 56, 63, 64, 65, 66, 67, 68, 98, 99, 100, 101, 0, 4, 5, 10, 11, 12, 13, 15, 16, 17, 18, 19, 20, 25, 26, 27, 28, 29, 30, 31, 32, 33, 34, 35, 36, 37, 38, 39, 40, 41, 42, 43, 46, 57, 58, 59, 60, 61, 62, 69, 70, 71, 72, 73, 74, 75, 76, 77, 78, 79, 80, 81, 82, 83, 84, 85, 86, 87, 88, 89, 90, 91, 92, 93, 94, 95, 96, 97, 110, 111, 112, 113, 114, 115, 116, 117, 118, 119, 120, 121, 122, 123, 124, 125, 126, 127, 128, 129, 130, 131, 132, 133, 134, 135, 136, 137, 138, 139, 140, 141, 142, 143, 144, 145] (by decide +kernel) (by decide +kernel)
set_option maxRecDepth 20000 in
theorem gX7_laysWord_X7_sum_ : GoodIn wsX7_laysWord (wsV RX7 238 RX7 yX7_sum_ wsX7_sum_) := goodIn_app (goodIn_of _ (by decide +kernel)) ggX7_laysWord_X7_sum_
set_option maxRecDepth 20000 in
theorem ggX7_laysWord_X7_closes : GoodIn wsX7_laysWord wsX7_closes := goodIn_r _ [35, 20, 36, 37, 38, 14, 39, 6, 1, 21, 22, 23, 24, 2, 3, 25, 26, 27, 28, 122, 123, 124, 125, 126, 127, 128, 129, 130, 131, 132, 133, 134, 135, 136, 137, 138, 139, 140, 141, 142, 143, 144, 145] (by decide +kernel) (by decide +kernel)
set_option maxRecDepth 20000 in
theorem gX7_laysWord_X7_closes : GoodIn wsX7_laysWord (wsV RX7 241 RX7 yX7_closes wsX7_closes) := goodIn_app (goodIn_of _ (by decide +kernel)) ggX7_laysWord_X7_closes
set_option maxRecDepth 20000 in
theorem ggX7_laysWord_X7_laysSaw : GoodIn wsX7_laysWord wsX7_laysSaw := goodIn_r _ [43, 44, 45, 46, 47, 48, 49, 14, 50, 51, 52, 53, 54, 55, 56, 57, 58, 59, 60, 61, 62, 122, 123, 124, 125, 126, 127, 128, 129, 130, 131, 132, 133, 134, 135, 136, 137, 138, 139, 140, 141, 142, 143, 144, 145] (by decide +kernel) (by decide +kernel)
set_option maxRecDepth 20000 in
theorem gX7_laysWord_X7_laysSaw : GoodIn wsX7_laysWord (wsV RX7 78 RX7 yX7_laysSaw wsX7_laysSaw) := goodIn_app (goodIn_of _ (by decide +kernel)) ggX7_laysWord_X7_laysSaw
set_option maxRecDepth 20000 in
theorem ggX7_laysWord_X7_piles : GoodIn wsX7_laysWord wsX7_piles := goodIn_r _ [66, 44, 67, 45, 68, 8, 7, 9, 54, 55, 14, 56, 122, 123, 124, 125, 126, 127, 128, 129, 130, 131, 132, 133, 134, 135, 136, 137, 138, 139, 140, 141, 142, 143, 144, 145] (by decide +kernel) (by decide +kernel)
set_option maxRecDepth 20000 in
theorem gX7_laysWord_X7_piles : GoodIn wsX7_laysWord (wsV RX7 228 RX7 yX7_piles wsX7_piles) := goodIn_app (goodIn_of _ (by decide +kernel)) ggX7_laysWord_X7_piles
set_option maxRecDepth 20000 in
theorem ggX7_laysWord_X7_whole : GoodIn wsX7_laysWord wsX7_whole := goodIn_r _ [72, 1, 21, 22, 23, 14, 24, 2, 3, 73, 74, 75, 76, 10, 6, 77, 78, 79, 80, 12, 13, 15, 25, 26, 27, 28, 122, 123, 124, 125, 126, 127, 128, 129, 130, 131, 132, 133, 134, 135, 136, 137, 138, 139, 140, 141, 142, 143, 144, 145] (by decide +kernel) (by decide +kernel)
set_option maxRecDepth 20000 in
theorem gX7_laysWord_X7_whole : GoodIn wsX7_laysWord (wsV RX7 244 RX7 yX7_whole wsX7_whole) := goodIn_app (goodIn_of _ (by decide +kernel)) ggX7_laysWord_X7_whole
set_option maxRecDepth 20000 in
theorem ggX7_laysWord_X7_sign : GoodIn wsX7_laysWord wsX7_sign := goodIn_r _ [39, 6, 1, 21, 22, 23, 14, 24, 2, 3, 25, 26, 27, 28, 122, 123, 124, 125, 126, 127, 128, 129, 130, 131, 132, 133, 134, 135, 136, 137, 138, 139, 140, 141, 142, 143, 144, 145] (by decide +kernel) (by decide +kernel)
set_option maxRecDepth 20000 in
theorem gX7_laysWord_X7_sign : GoodIn wsX7_laysWord (wsV RX7 222 RX7 yX7_sign wsX7_sign) := goodIn_app (goodIn_of _ (by decide +kernel)) ggX7_laysWord_X7_sign
set_option maxRecDepth 20000 in
theorem ggX7_laysWord_X7_fails : GoodIn wsX7_laysWord wsX7_fails := goodIn_r _ [28, 6, 122, 123, 124, 125, 126, 127, 128, 129, 130, 131, 132, 133, 134, 135, 136, 137, 138, 139, 140, 141, 142, 143, 144, 145] (by decide +kernel) (by decide +kernel)
set_option maxRecDepth 20000 in
theorem gX7_laysWord_X7_fails : GoodIn wsX7_laysWord (wsV RX7 215 RX7 yX7_fails wsX7_fails) := goodIn_app (goodIn_of _ (by decide +kernel)) ggX7_laysWord_X7_fails
set_option maxRecDepth 20000 in
theorem ggX7_laysWord_X7_laysSum : GoodIn wsX7_laysWord wsX7_laysSum := goodIn_r _ [84, 85, 51, 52, 14, 53, 54, 55, 56, 86, 87, 88, 89, 57, 58, 59, 60, 61, 62, 47, 48, 49, 50, 44, 45, 122, 123, 124, 125, 126, 127, 128, 129, 130, 131, 132, 133, 134, 135, 136, 137, 138, 139, 140, 141, 142, 143, 144, 145] (by decide +kernel) (by decide +kernel)
set_option maxRecDepth 20000 in
theorem gX7_laysWord_X7_laysSum : GoodIn wsX7_laysWord (wsV RX7 87 RX7 yX7_laysSum wsX7_laysSum) := goodIn_app (goodIn_of _ (by decide +kernel)) ggX7_laysWord_X7_laysSum
set_option maxRecDepth 20000 in
theorem ggX7_laysWord_X7_phi : GoodIn wsX7_laysWord wsX7_phi := goodIn_r _ [93, 94, 95, 96, 97, 54, 55, 14, 56, 86, 87, 88, 89, 57, 58, 59, 60, 61, 62, 122, 123, 124, 125, 126, 127, 128, 129, 130, 131, 132, 133, 134, 135, 136, 137, 138, 139, 140, 141, 142, 143, 144, 145] (by decide +kernel) (by decide +kernel)
set_option maxRecDepth 20000 in
theorem gX7_laysWord_X7_phi : GoodIn wsX7_laysWord (wsV RX7 156 RX7 yX7_phi wsX7_phi) := goodIn_app (goodIn_of _ (by decide +kernel)) ggX7_laysWord_X7_phi
set_option maxRecDepth 20000 in
theorem ggX7_laysWord_X7_lays : GoodIn wsX7_laysWord wsX7_lays := goodIn_r _ [50, 44, 45, 51, 52, 14, 53, 54, 55, 56, 122, 123, 124, 125, 126, 127, 128, 129, 130, 131, 132, 133, 134, 135, 136, 137, 138, 139, 140, 141, 142, 143, 144, 145] (by decide +kernel) (by decide +kernel)
set_option maxRecDepth 20000 in
theorem gX7_laysWord_X7_lays : GoodIn wsX7_laysWord (wsV RX7 64 RX7 yX7_lays wsX7_lays) := goodIn_app (goodIn_of _ (by decide +kernel)) ggX7_laysWord_X7_lays
theorem dX7_laysWord_0 : decode cX7_laysWord 0 = .ok (.aload_n 0, 1) := by decide +kernel
theorem dX7_laysWord_1 : decode cX7_laysWord 1 = .ok (.getfield 185, 3) := by decide +kernel
theorem dX7_laysWord_4 : decode cX7_laysWord 4 = .ok (.istore_n 1, 1) := by decide +kernel
theorem dX7_laysWord_5 : decode cX7_laysWord 5 = .ok (.iconst 0, 1) := by decide +kernel
theorem dX7_laysWord_6 : decode cX7_laysWord 6 = .ok (.istore_n 2, 1) := by decide +kernel
theorem dX7_laysWord_7 : decode cX7_laysWord 7 = .ok (.aload_n 0, 1) := by decide +kernel
theorem dX7_laysWord_8 : decode cX7_laysWord 8 = .ok (.getfield 185, 3) := by decide +kernel
theorem dX7_laysWord_11 : decode cX7_laysWord 11 = .ok (.aload_n 0, 1) := by decide +kernel
theorem dX7_laysWord_12 : decode cX7_laysWord 12 = .ok (.getfield 188, 3) := by decide +kernel
theorem dX7_laysWord_15 : decode cX7_laysWord 15 = .ok (.if_icmp .ge 70, 3) := by decide +kernel
theorem dX7_laysWord_18 : decode cX7_laysWord 18 = .ok (.aload_n 0, 1) := by decide +kernel
theorem dX7_laysWord_19 : decode cX7_laysWord 19 = .ok (.getfield 13, 3) := by decide +kernel
theorem dX7_laysWord_22 : decode cX7_laysWord 22 = .ok (.aload_n 0, 1) := by decide +kernel
theorem dX7_laysWord_23 : decode cX7_laysWord 23 = .ok (.getfield 185, 3) := by decide +kernel
theorem dX7_laysWord_26 : decode cX7_laysWord 26 = .ok (.baload, 1) := by decide +kernel
theorem dX7_laysWord_27 : decode cX7_laysWord 27 = .ok (.i2l, 1) := by decide +kernel
theorem dX7_laysWord_28 : decode cX7_laysWord 28 = .ok (.ldc2_w 231, 3) := by decide +kernel
theorem dX7_laysWord_31 : decode cX7_laysWord 31 = .ok (.ldc2_w 233, 3) := by decide +kernel
theorem dX7_laysWord_34 : decode cX7_laysWord 34 = .ok (.invokestatic 72, 3) := by decide +kernel
theorem dX7_laysWord_37 : decode cX7_laysWord 37 = .ok (.ifCond .eq 48, 3) := by decide +kernel
theorem dX7_laysWord_40 : decode cX7_laysWord 40 = .ok (.aload_n 0, 1) := by decide +kernel
theorem dX7_laysWord_41 : decode cX7_laysWord 41 = .ok (.getfield 185, 3) := by decide +kernel
theorem dX7_laysWord_44 : decode cX7_laysWord 44 = .ok (.iload_n 1, 1) := by decide +kernel
theorem dX7_laysWord_45 : decode cX7_laysWord 45 = .ok (.isub, 1) := by decide +kernel
theorem dX7_laysWord_46 : decode cX7_laysWord 46 = .ok (.iconst 4, 1) := by decide +kernel
theorem dX7_laysWord_47 : decode cX7_laysWord 47 = .ok (.if_icmp .ge 23, 3) := by decide +kernel
theorem dX7_laysWord_50 : decode cX7_laysWord 50 = .ok (.bipush 32, 2) := by decide +kernel
theorem dX7_laysWord_52 : decode cX7_laysWord 52 = .ok (.iload_n 2, 1) := by decide +kernel
theorem dX7_laysWord_53 : decode cX7_laysWord 53 = .ok (.imul, 1) := by decide +kernel
theorem dX7_laysWord_54 : decode cX7_laysWord 54 = .ok (.aload_n 0, 1) := by decide +kernel
theorem dX7_laysWord_55 : decode cX7_laysWord 55 = .ok (.getfield 13, 3) := by decide +kernel
theorem dX7_laysWord_58 : decode cX7_laysWord 58 = .ok (.aload_n 0, 1) := by decide +kernel
theorem dX7_laysWord_59 : decode cX7_laysWord 59 = .ok (.getfield 185, 3) := by decide +kernel
theorem dX7_laysWord_62 : decode cX7_laysWord 62 = .ok (.baload, 1) := by decide +kernel
theorem dX7_laysWord_63 : decode cX7_laysWord 63 = .ok (.iadd, 1) := by decide +kernel
theorem dX7_laysWord_64 : decode cX7_laysWord 64 = .ok (.bipush 96, 2) := by decide +kernel
theorem dX7_laysWord_66 : decode cX7_laysWord 66 = .ok (.isub, 1) := by decide +kernel
theorem dX7_laysWord_67 : decode cX7_laysWord 67 = .ok (.goto 4, 3) := by decide +kernel
theorem dX7_laysWord_70 : decode cX7_laysWord 70 = .ok (.iconst 0, 1) := by decide +kernel
theorem dX7_laysWord_71 : decode cX7_laysWord 71 = .ok (.istore_n 2, 1) := by decide +kernel
theorem dX7_laysWord_72 : decode cX7_laysWord 72 = .ok (.aload_n 0, 1) := by decide +kernel
theorem dX7_laysWord_73 : decode cX7_laysWord 73 = .ok (.dup, 1) := by decide +kernel
theorem dX7_laysWord_74 : decode cX7_laysWord 74 = .ok (.getfield 185, 3) := by decide +kernel
theorem dX7_laysWord_77 : decode cX7_laysWord 77 = .ok (.iconst 1, 1) := by decide +kernel
theorem dX7_laysWord_78 : decode cX7_laysWord 78 = .ok (.iadd, 1) := by decide +kernel
theorem dX7_laysWord_79 : decode cX7_laysWord 79 = .ok (.putfield 185, 3) := by decide +kernel
theorem dX7_laysWord_82 : decode cX7_laysWord 82 = .ok (.goto (-75), 3) := by decide +kernel
theorem dX7_laysWord_85 : decode cX7_laysWord 85 = .ok (.iload_n 2, 1) := by decide +kernel
theorem dX7_laysWord_86 : decode cX7_laysWord 86 = .ok (.sipush 19511, 3) := by decide +kernel
theorem dX7_laysWord_89 : decode cX7_laysWord 89 = .ok (.if_icmp .ne 63, 3) := by decide +kernel
theorem dX7_laysWord_92 : decode cX7_laysWord 92 = .ok (.aload_n 0, 1) := by decide +kernel
theorem dX7_laysWord_93 : decode cX7_laysWord 93 = .ok (.invokevirtual 235, 3) := by decide +kernel
theorem dX7_laysWord_96 : decode cX7_laysWord 96 = .ok (.aload_n 0, 1) := by decide +kernel
theorem dX7_laysWord_97 : decode cX7_laysWord 97 = .ok (.invokevirtual 238, 3) := by decide +kernel
theorem dX7_laysWord_100 : decode cX7_laysWord 100 = .ok (.aload_n 0, 1) := by decide +kernel
theorem dX7_laysWord_101 : decode cX7_laysWord 101 = .ok (.invokevirtual 241, 3) := by decide +kernel
theorem dX7_laysWord_104 : decode cX7_laysWord 104 = .ok (.aload_n 0, 1) := by decide +kernel
theorem dX7_laysWord_105 : decode cX7_laysWord 105 = .ok (.getfield 191, 3) := by decide +kernel
theorem dX7_laysWord_108 : decode cX7_laysWord 108 = .ok (.ifCond .eq 4, 3) := by decide +kernel
theorem dX7_laysWord_111 : decode cX7_laysWord 111 = .ok (.return_, 1) := by decide +kernel
theorem dX7_laysWord_112 : decode cX7_laysWord 112 = .ok (.aload_n 0, 1) := by decide +kernel
theorem dX7_laysWord_113 : decode cX7_laysWord 113 = .ok (.dup, 1) := by decide +kernel
theorem dX7_laysWord_114 : decode cX7_laysWord 114 = .ok (.getfield 197, 3) := by decide +kernel
theorem dX7_laysWord_117 : decode cX7_laysWord 117 = .ok (.iconst 1, 1) := by decide +kernel
theorem dX7_laysWord_118 : decode cX7_laysWord 118 = .ok (.isub, 1) := by decide +kernel
theorem dX7_laysWord_119 : decode cX7_laysWord 119 = .ok (.putfield 197, 3) := by decide +kernel
theorem dX7_laysWord_122 : decode cX7_laysWord 122 = .ok (.aload_n 0, 1) := by decide +kernel
theorem dX7_laysWord_123 : decode cX7_laysWord 123 = .ok (.aload_n 0, 1) := by decide +kernel
theorem dX7_laysWord_124 : decode cX7_laysWord 124 = .ok (.getfield 17, 3) := by decide +kernel
theorem dX7_laysWord_127 : decode cX7_laysWord 127 = .ok (.aload_n 0, 1) := by decide +kernel
theorem dX7_laysWord_128 : decode cX7_laysWord 128 = .ok (.getfield 197, 3) := by decide +kernel
theorem dX7_laysWord_131 : decode cX7_laysWord 131 = .ok (.laload, 1) := by decide +kernel
theorem dX7_laysWord_132 : decode cX7_laysWord 132 = .ok (.aload_n 0, 1) := by decide +kernel
theorem dX7_laysWord_133 : decode cX7_laysWord 133 = .ok (.getfield 20, 3) := by decide +kernel
theorem dX7_laysWord_136 : decode cX7_laysWord 136 = .ok (.aload_n 0, 1) := by decide +kernel
theorem dX7_laysWord_137 : decode cX7_laysWord 137 = .ok (.getfield 197, 3) := by decide +kernel
theorem dX7_laysWord_140 : decode cX7_laysWord 140 = .ok (.laload, 1) := by decide +kernel
theorem dX7_laysWord_141 : decode cX7_laysWord 141 = .ok (.invokevirtual 78, 3) := by decide +kernel
theorem dX7_laysWord_144 : decode cX7_laysWord 144 = .ok (.aload_n 0, 1) := by decide +kernel
theorem dX7_laysWord_145 : decode cX7_laysWord 145 = .ok (.iload_n 1, 1) := by decide +kernel
theorem dX7_laysWord_146 : decode cX7_laysWord 146 = .ok (.invokevirtual 228, 3) := by decide +kernel
theorem dX7_laysWord_149 : decode cX7_laysWord 149 = .ok (.goto 120, 3) := by decide +kernel
theorem dX7_laysWord_152 : decode cX7_laysWord 152 = .ok (.iload_n 2, 1) := by decide +kernel
theorem dX7_laysWord_153 : decode cX7_laysWord 153 = .ok (.bipush 19, 2) := by decide +kernel
theorem dX7_laysWord_155 : decode cX7_laysWord 155 = .ok (.if_icmp .ne 84, 3) := by decide +kernel
theorem dX7_laysWord_158 : decode cX7_laysWord 158 = .ok (.aload_n 0, 1) := by decide +kernel
theorem dX7_laysWord_159 : decode cX7_laysWord 159 = .ok (.invokevirtual 235, 3) := by decide +kernel
theorem dX7_laysWord_162 : decode cX7_laysWord 162 = .ok (.aload_n 0, 1) := by decide +kernel
theorem dX7_laysWord_163 : decode cX7_laysWord 163 = .ok (.invokevirtual 244, 3) := by decide +kernel
theorem dX7_laysWord_166 : decode cX7_laysWord 166 = .ok (.lstore_n 3, 1) := by decide +kernel
theorem dX7_laysWord_167 : decode cX7_laysWord 167 = .ok (.aload_n 0, 1) := by decide +kernel
theorem dX7_laysWord_168 : decode cX7_laysWord 168 = .ok (.bipush 44, 2) := by decide +kernel
theorem dX7_laysWord_170 : decode cX7_laysWord 170 = .ok (.invokevirtual 222, 3) := by decide +kernel
theorem dX7_laysWord_173 : decode cX7_laysWord 173 = .ok (.aload_n 0, 1) := by decide +kernel
theorem dX7_laysWord_174 : decode cX7_laysWord 174 = .ok (.invokevirtual 244, 3) := by decide +kernel
theorem dX7_laysWord_177 : decode cX7_laysWord 177 = .ok (.lstore 5, 2) := by decide +kernel
theorem dX7_laysWord_179 : decode cX7_laysWord 179 = .ok (.aload_n 0, 1) := by decide +kernel
theorem dX7_laysWord_180 : decode cX7_laysWord 180 = .ok (.getfield 191, 3) := by decide +kernel
theorem dX7_laysWord_183 : decode cX7_laysWord 183 = .ok (.ifCond .ne 19, 3) := by decide +kernel
theorem dX7_laysWord_186 : decode cX7_laysWord 186 = .ok (.lload 5, 2) := by decide +kernel
theorem dX7_laysWord_188 : decode cX7_laysWord 188 = .ok (.lconst 0, 1) := by decide +kernel
theorem dX7_laysWord_189 : decode cX7_laysWord 189 = .ok (.lcmp, 1) := by decide +kernel
theorem dX7_laysWord_190 : decode cX7_laysWord 190 = .ok (.ifCond .gt 12, 3) := by decide +kernel
theorem dX7_laysWord_193 : decode cX7_laysWord 193 = .ok (.aload_n 0, 1) := by decide +kernel
theorem dX7_laysWord_194 : decode cX7_laysWord 194 = .ok (.iconst 2, 1) := by decide +kernel
theorem dX7_laysWord_195 : decode cX7_laysWord 195 = .ok (.aload_n 0, 1) := by decide +kernel
theorem dX7_laysWord_196 : decode cX7_laysWord 196 = .ok (.getfield 204, 3) := by decide +kernel
theorem dX7_laysWord_199 : decode cX7_laysWord 199 = .ok (.invokevirtual 215, 3) := by decide +kernel
theorem dX7_laysWord_202 : decode cX7_laysWord 202 = .ok (.aload_n 0, 1) := by decide +kernel
theorem dX7_laysWord_203 : decode cX7_laysWord 203 = .ok (.invokevirtual 241, 3) := by decide +kernel
theorem dX7_laysWord_206 : decode cX7_laysWord 206 = .ok (.aload_n 0, 1) := by decide +kernel
theorem dX7_laysWord_207 : decode cX7_laysWord 207 = .ok (.getfield 191, 3) := by decide +kernel
theorem dX7_laysWord_210 : decode cX7_laysWord 210 = .ok (.ifCond .eq 4, 3) := by decide +kernel
theorem dX7_laysWord_213 : decode cX7_laysWord 213 = .ok (.return_, 1) := by decide +kernel
theorem dX7_laysWord_214 : decode cX7_laysWord 214 = .ok (.aload_n 0, 1) := by decide +kernel
theorem dX7_laysWord_215 : decode cX7_laysWord 215 = .ok (.dup, 1) := by decide +kernel
theorem dX7_laysWord_216 : decode cX7_laysWord 216 = .ok (.getfield 247, 3) := by decide +kernel
theorem dX7_laysWord_219 : decode cX7_laysWord 219 = .ok (.iconst 1, 1) := by decide +kernel
theorem dX7_laysWord_220 : decode cX7_laysWord 220 = .ok (.iadd, 1) := by decide +kernel
theorem dX7_laysWord_221 : decode cX7_laysWord 221 = .ok (.putfield 247, 3) := by decide +kernel
theorem dX7_laysWord_224 : decode cX7_laysWord 224 = .ok (.aload_n 0, 1) := by decide +kernel
theorem dX7_laysWord_225 : decode cX7_laysWord 225 = .ok (.lload_n 3, 1) := by decide +kernel
theorem dX7_laysWord_226 : decode cX7_laysWord 226 = .ok (.lload 5, 2) := by decide +kernel
theorem dX7_laysWord_228 : decode cX7_laysWord 228 = .ok (.invokevirtual 87, 3) := by decide +kernel
theorem dX7_laysWord_231 : decode cX7_laysWord 231 = .ok (.aload_n 0, 1) := by decide +kernel
theorem dX7_laysWord_232 : decode cX7_laysWord 232 = .ok (.iload_n 1, 1) := by decide +kernel
theorem dX7_laysWord_233 : decode cX7_laysWord 233 = .ok (.invokevirtual 228, 3) := by decide +kernel
theorem dX7_laysWord_236 : decode cX7_laysWord 236 = .ok (.goto 33, 3) := by decide +kernel
theorem dX7_laysWord_239 : decode cX7_laysWord 239 = .ok (.iload_n 2, 1) := by decide +kernel
theorem dX7_laysWord_240 : decode cX7_laysWord 240 = .ok (.sipush 16649, 3) := by decide +kernel
theorem dX7_laysWord_243 : decode cX7_laysWord 243 = .ok (.if_icmp .ne 20, 3) := by decide +kernel
theorem dX7_laysWord_246 : decode cX7_laysWord 246 = .ok (.aload_n 0, 1) := by decide +kernel
theorem dX7_laysWord_247 : decode cX7_laysWord 247 = .ok (.aload_n 0, 1) := by decide +kernel
theorem dX7_laysWord_248 : decode cX7_laysWord 248 = .ok (.invokevirtual 156, 3) := by decide +kernel
theorem dX7_laysWord_251 : decode cX7_laysWord 251 = .ok (.lconst 1, 1) := by decide +kernel
theorem dX7_laysWord_252 : decode cX7_laysWord 252 = .ok (.invokevirtual 64, 3) := by decide +kernel
theorem dX7_laysWord_255 : decode cX7_laysWord 255 = .ok (.aload_n 0, 1) := by decide +kernel
theorem dX7_laysWord_256 : decode cX7_laysWord 256 = .ok (.iload_n 1, 1) := by decide +kernel
theorem dX7_laysWord_257 : decode cX7_laysWord 257 = .ok (.invokevirtual 228, 3) := by decide +kernel
theorem dX7_laysWord_260 : decode cX7_laysWord 260 = .ok (.goto 9, 3) := by decide +kernel
theorem dX7_laysWord_263 : decode cX7_laysWord 263 = .ok (.aload_n 0, 1) := by decide +kernel
theorem dX7_laysWord_264 : decode cX7_laysWord 264 = .ok (.iconst 1, 1) := by decide +kernel
theorem dX7_laysWord_265 : decode cX7_laysWord 265 = .ok (.iload_n 1, 1) := by decide +kernel
theorem dX7_laysWord_266 : decode cX7_laysWord 266 = .ok (.invokevirtual 215, 3) := by decide +kernel
theorem dX7_laysWord_269 : decode cX7_laysWord 269 = .ok (.return_, 1) := by decide +kernel
set_option maxRecDepth 20000 in
theorem ggX7_unit_X7_here : GoodIn wsX7_unit wsX7_here := goodIn_r _ [11, 6, 12, 13, 122, 123, 124, 125, 126, 127, 128, 129, 130, 131, 132, 133, 134, 135, 136, 137, 138, 139, 140, 141, 142, 143, 144, 145] (by decide +kernel) (by decide +kernel)
set_option maxRecDepth 20000 in
theorem gX7_unit_X7_here : GoodIn wsX7_unit (wsV RX7 200 RX7 yX7_here wsX7_here) := goodIn_app (goodIn_of _ (by decide +kernel)) ggX7_unit_X7_here
set_option maxRecDepth 20000 in
theorem ggX7_unit_X7_isIn : GoodIn wsX7_unit wsX7_isIn := goodIn_r _ [16] (by decide +kernel) (by decide +kernel)
set_option maxRecDepth 20000 in
theorem gX7_unit_X7_isIn : GoodIn wsX7_unit (va_wsS RX7 72 yX7_isIn wsX7_isIn) := goodIn_app (goodIn_of _ (by decide +kernel)) ggX7_unit_X7_isIn
set_option maxRecDepth 20000 in
theorem ggX7_unit_X7_laysDivided : GoodIn wsX7_unit wsX7_laysDivided := goodIn_r _ [20, 21, 6, 1, 22, 23, 24, 10, 25, 12, 13, 2, 3, 26, 27, 7, 8, 9, 11, 14, 15, 16, 28, 29, 30, 31, 32, 33, 34, 35, 36, 37, 38, 39, 40, 41, 42, 43, 44, 45, 46, 47, 48, 49, 50, 51, 52, 122, 123, 124, 125, 126, 127, 128, 129, 130, 131, 132, 133, 134, 135, 136, 137, 138, 139, 140, 141, 142, 143, 144, 145] (by decide +kernel) (by decide +kernel)
set_option maxRecDepth 20000 in
theorem gX7_unit_X7_laysDivided : GoodIn wsX7_unit (wsV RX7 250 RX7 yX7_laysDivided wsX7_laysDivided) := goodIn_app (goodIn_of _ (by decide +kernel)) ggX7_unit_X7_laysDivided
set_option maxRecDepth 20000 in
theorem ggX7_unit_X7_laysWord : GoodIn wsX7_unit wsX7_laysWord := goodIn_r _ [76, 6, 12, 13, 4, 5, 1, 51, 50, 52, 21, 77, 14, 15, 10, 16, 56, 57, 58, 59, 60, 7, 8, 9, 11, 28, 29, 30, 31, 61, 62, 63, 64, 65, 66, 67, 68, 69, 70, 71, 78, 79, 80, 81, 36, 37, 82, 32, 33, 34, 35, 38, 39, 40, 41, 42, 43, 83, 84, 85, 86, 87, 88, 44, 45, 46, 47, 48, 49, 89, 90, 91, 92, 22, 23, 24, 25, 2, 3, 26, 27, 93, 94, 95, 96, 97, 98, 99, 100, 101, 102, 103, 104, 105, 106, 107, 108, 109, 72, 73, 74, 75, 110, 111, 112, 113, 114, 115, 116, 117, 118, 119, 120, 121, 0, 17, 18, 19, 20, 53, 54, 55, 122, 123, 124, 125, 126, 127, 128, 129, 130, 131, 132, 133, 134, 135, 136, 137, 138, 139, 140, 141, 142, 143, 144, 145] (by decide +kernel) (by decide +kernel)
set_option maxRecDepth 20000 in
theorem gX7_unit_X7_laysWord : GoodIn wsX7_unit (wsV RX7 253 RX7 yX7_laysWord wsX7_laysWord) := goodIn_app (goodIn_of _ (by decide +kernel)) ggX7_unit_X7_laysWord
set_option maxRecDepth 20000 in
theorem ggX7_unit_X7_opens : GoodIn wsX7_unit wsX7_opens := goodIn_r _ [59, 1, 6, 60, 7, 8, 9, 10, 11, 12, 13, 28, 29, 30, 31, 122, 123, 124, 125, 126, 127, 128, 129, 130, 131, 132, 133, 134, 135, 136, 137, 138, 139, 140, 141, 142, 143, 144, 145] (by decide +kernel) (by decide +kernel)
set_option maxRecDepth 20000 in
theorem gX7_unit_X7_opens : GoodIn wsX7_unit (wsV RX7 235 RX7 yX7_opens wsX7_opens) := goodIn_app (goodIn_of _ (by decide +kernel)) ggX7_unit_X7_opens
set_option maxRecDepth 20000 in
theorem ggX7_unit_X7_sum_ : GoodIn wsX7_unit wsX7_sum_ := goodIn_r _ [110, 1, 6, 111, 112, 113, 10, 7, 8, 9, 11, 12, 13, 114, 115, 116, 117, 51, 50, 52, 32, 33, 34, 35, 36, 37, 38, 39, 40, 41, 42, 43, 44, 45, 46, 47, 48, 49, 72, 73, 74, 75, 76, 4, 5, 21, 77, 14, 15, 16, 56, 57, 58, 59, 60, 28, 29, 30, 31, 61, 62, 63, 64, 65, 66, 67, 68, 69, 70, 71, 78, 79, 80, 81, 82, 83, 84, 85, 86, 87, 88, 89, 90, 91, 92, 22, 23, 24, 25, 2, 3, 26, 27, 93, 94, 95, 96, 97, 98, 99, 100, 101, 102, 103, 104, 105, 106, 107, 108, 109, 118, 119, 120, 121, 0, 17, 18, 19, 20, 53, 54, 55, 122, 123, 124, 125, 126, 127, 128, 129, 130, 131, 132, 133, 134, 135, 136, 137, 138, 139, 140, 141, 142, 143, 144, 145] (by decide +kernel) (by decide +kernel)
set_option maxRecDepth 20000 in
theorem gX7_unit_X7_sum_ : GoodIn wsX7_unit (wsV RX7 238 RX7 yX7_sum_ wsX7_sum_) := goodIn_app (goodIn_of _ (by decide +kernel)) ggX7_unit_X7_sum_
set_option maxRecDepth 20000 in
theorem ggX7_unit_X7_closes : GoodIn wsX7_unit wsX7_closes := goodIn_r _ [67, 60, 68, 69, 70, 10, 71, 1, 6, 7, 8, 9, 11, 12, 13, 28, 29, 30, 31, 122, 123, 124, 125, 126, 127, 128, 129, 130, 131, 132, 133, 134, 135, 136, 137, 138, 139, 140, 141, 142, 143, 144, 145] (by decide +kernel) (by decide +kernel)
set_option maxRecDepth 20000 in
theorem gX7_unit_X7_closes : GoodIn wsX7_unit (wsV RX7 241 RX7 yX7_closes wsX7_closes) := goodIn_app (goodIn_of _ (by decide +kernel)) ggX7_unit_X7_closes
set_option maxRecDepth 20000 in
theorem ggX7_unit_X7_fails : GoodIn wsX7_unit wsX7_fails := goodIn_r _ [31, 1, 122, 123, 124, 125, 126, 127, 128, 129, 130, 131, 132, 133, 134, 135, 136, 137, 138, 139, 140, 141, 142, 143, 144, 145] (by decide +kernel) (by decide +kernel)
set_option maxRecDepth 20000 in
theorem gX7_unit_X7_fails : GoodIn wsX7_unit (wsV RX7 215 RX7 yX7_fails wsX7_fails) := goodIn_app (goodIn_of _ (by decide +kernel)) ggX7_unit_X7_fails
theorem dX7_unit_0 : decode cX7_unit 0 = .ok (.aload_n 0, 1) := by decide +kernel
theorem dX7_unit_1 : decode cX7_unit 1 = .ok (.getfield 191, 3) := by decide +kernel
theorem dX7_unit_4 : decode cX7_unit 4 = .ok (.ifCond .eq 4, 3) := by decide +kernel
theorem dX7_unit_7 : decode cX7_unit 7 = .ok (.return_, 1) := by decide +kernel
theorem dX7_unit_8 : decode cX7_unit 8 = .ok (.aload_n 0, 1) := by decide +kernel
theorem dX7_unit_9 : decode cX7_unit 9 = .ok (.invokevirtual 200, 3) := by decide +kernel
theorem dX7_unit_12 : decode cX7_unit 12 = .ok (.istore_n 1, 1) := by decide +kernel
theorem dX7_unit_13 : decode cX7_unit 13 = .ok (.iload_n 1, 1) := by decide +kernel
theorem dX7_unit_14 : decode cX7_unit 14 = .ok (.i2l, 1) := by decide +kernel
theorem dX7_unit_15 : decode cX7_unit 15 = .ok (.ldc2_w 207, 3) := by decide +kernel
theorem dX7_unit_18 : decode cX7_unit 18 = .ok (.ldc2_w 209, 3) := by decide +kernel
theorem dX7_unit_21 : decode cX7_unit 21 = .ok (.invokestatic 72, 3) := by decide +kernel
theorem dX7_unit_24 : decode cX7_unit 24 = .ok (.ifCond .eq 10, 3) := by decide +kernel
theorem dX7_unit_27 : decode cX7_unit 27 = .ok (.aload_n 0, 1) := by decide +kernel
theorem dX7_unit_28 : decode cX7_unit 28 = .ok (.invokevirtual 250, 3) := by decide +kernel
theorem dX7_unit_31 : decode cX7_unit 31 = .ok (.goto 54, 3) := by decide +kernel
theorem dX7_unit_34 : decode cX7_unit 34 = .ok (.iload_n 1, 1) := by decide +kernel
theorem dX7_unit_35 : decode cX7_unit 35 = .ok (.i2l, 1) := by decide +kernel
theorem dX7_unit_36 : decode cX7_unit 36 = .ok (.ldc2_w 231, 3) := by decide +kernel
theorem dX7_unit_39 : decode cX7_unit 39 = .ok (.ldc2_w 233, 3) := by decide +kernel
theorem dX7_unit_42 : decode cX7_unit 42 = .ok (.invokestatic 72, 3) := by decide +kernel
theorem dX7_unit_45 : decode cX7_unit 45 = .ok (.ifCond .eq 10, 3) := by decide +kernel
theorem dX7_unit_48 : decode cX7_unit 48 = .ok (.aload_n 0, 1) := by decide +kernel
theorem dX7_unit_49 : decode cX7_unit 49 = .ok (.invokevirtual 253, 3) := by decide +kernel
theorem dX7_unit_52 : decode cX7_unit 52 = .ok (.goto 33, 3) := by decide +kernel
theorem dX7_unit_55 : decode cX7_unit 55 = .ok (.iload_n 1, 1) := by decide +kernel
theorem dX7_unit_56 : decode cX7_unit 56 = .ok (.bipush 40, 2) := by decide +kernel
theorem dX7_unit_58 : decode cX7_unit 58 = .ok (.if_icmp .ne 18, 3) := by decide +kernel
theorem dX7_unit_61 : decode cX7_unit 61 = .ok (.aload_n 0, 1) := by decide +kernel
theorem dX7_unit_62 : decode cX7_unit 62 = .ok (.invokevirtual 235, 3) := by decide +kernel
theorem dX7_unit_65 : decode cX7_unit 65 = .ok (.aload_n 0, 1) := by decide +kernel
theorem dX7_unit_66 : decode cX7_unit 66 = .ok (.invokevirtual 238, 3) := by decide +kernel
theorem dX7_unit_69 : decode cX7_unit 69 = .ok (.aload_n 0, 1) := by decide +kernel
theorem dX7_unit_70 : decode cX7_unit 70 = .ok (.invokevirtual 241, 3) := by decide +kernel
theorem dX7_unit_73 : decode cX7_unit 73 = .ok (.goto 12, 3) := by decide +kernel
theorem dX7_unit_76 : decode cX7_unit 76 = .ok (.aload_n 0, 1) := by decide +kernel
theorem dX7_unit_77 : decode cX7_unit 77 = .ok (.iconst 1, 1) := by decide +kernel
theorem dX7_unit_78 : decode cX7_unit 78 = .ok (.aload_n 0, 1) := by decide +kernel
theorem dX7_unit_79 : decode cX7_unit 79 = .ok (.getfield 185, 3) := by decide +kernel
theorem dX7_unit_82 : decode cX7_unit 82 = .ok (.invokevirtual 215, 3) := by decide +kernel
theorem dX7_unit_85 : decode cX7_unit 85 = .ok (.return_, 1) := by decide +kernel
set_option maxRecDepth 20000 in
theorem ggX7_factor_X7_here : GoodIn wsX7_factor wsX7_here := goodIn_r _ [9, 1, 10, 11, 122, 123, 124, 125, 126, 127, 128, 129, 130, 131, 132, 133, 134, 135, 136, 137, 138, 139, 140, 141, 142, 143, 144, 145] (by decide +kernel) (by decide +kernel)
set_option maxRecDepth 20000 in
theorem gX7_factor_X7_here : GoodIn wsX7_factor (wsV RX7 200 RX7 yX7_here wsX7_here) := goodIn_app (goodIn_of _ (by decide +kernel)) ggX7_factor_X7_here
set_option maxRecDepth 20000 in
theorem ggX7_factor_X7_unit : GoodIn wsX7_factor wsX7_unit := goodIn_r _ [114, 2, 81, 82, 16, 17, 1, 5, 6, 7, 8, 9, 10, 11, 21, 22, 23, 115, 116, 117, 118, 19, 77, 78, 79, 80, 83, 84, 29, 30, 31, 32, 51, 52, 53, 54, 48, 49, 55, 56, 57, 58, 59, 60, 67, 68, 69, 70, 71, 72, 3, 4, 18, 119, 120, 121, 24, 25, 26, 27, 28, 33, 34, 35, 36, 37, 38, 39, 40, 41, 42, 43, 0, 12, 13, 14, 15, 20, 44, 45, 46, 47, 50, 61, 62, 63, 64, 65, 66, 73, 74, 75, 76, 85, 86, 87, 88, 89, 90, 91, 92, 93, 94, 95, 96, 97, 98, 99, 100, 101, 102, 103, 104, 105, 106, 107, 108, 109, 110, 111, 112, 113, 122, 123, 124, 125, 126, 127, 128, 129, 130, 131, 132, 133, 134, 135, 136, 137, 138, 139, 140, 141, 142, 143, 144, 145] (by decide +kernel) (by decide +kernel)
set_option maxRecDepth 20000 in
theorem gX7_factor_X7_unit : GoodIn wsX7_factor (wsV RX7 256 RX7 yX7_unit wsX7_unit) := goodIn_app (goodIn_of _ (by decide +kernel)) ggX7_factor_X7_unit
