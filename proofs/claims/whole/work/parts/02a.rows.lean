theorem dX0_init_0 : decode cX0_init 0 = .ok (.aload_n 0, 1) := by decide +kernel
theorem dX0_init_1 : decode cX0_init 1 = .ok (.invokespecial 3, 3) := by decide +kernel
theorem dX0_init_4 : decode cX0_init 4 = .ok (.aload_n 0, 1) := by decide +kernel
theorem dX0_init_5 : decode cX0_init 5 = .ok (.sipush 500, 3) := by decide +kernel
theorem dX0_init_8 : decode cX0_init 8 = .ok (.newarray .int, 2) := by decide +kernel
theorem dX0_init_10 : decode cX0_init 10 = .ok (.putfield 9, 3) := by decide +kernel
theorem dX0_init_13 : decode cX0_init 13 = .ok (.aload_n 0, 1) := by decide +kernel
theorem dX0_init_14 : decode cX0_init 14 = .ok (.sipush 500, 3) := by decide +kernel
theorem dX0_init_17 : decode cX0_init 17 = .ok (.newarray .long, 2) := by decide +kernel
theorem dX0_init_19 : decode cX0_init 19 = .ok (.putfield 15, 3) := by decide +kernel
theorem dX0_init_22 : decode cX0_init 22 = .ok (.aload_n 0, 1) := by decide +kernel
theorem dX0_init_23 : decode cX0_init 23 = .ok (.iconst 0, 1) := by decide +kernel
theorem dX0_init_24 : decode cX0_init 24 = .ok (.putfield 19, 3) := by decide +kernel
theorem dX0_init_27 : decode cX0_init 27 = .ok (.return_, 1) := by decide +kernel
set_option maxRecDepth 20000 in
theorem ggX0_isRing_X6_lies : GoodIn wsX0_isRing wsX6_lies := goodIn_r _ [5] (by decide +kernel) (by decide +kernel)
set_option maxRecDepth 20000 in
theorem gX0_isRing_X6_lies_n27 : GoodIn wsX0_isRing (wsX6_lies) := ggX0_isRing_X6_lies
set_option maxRecDepth 20000 in
theorem ggX0_isRing_X5_divisor : GoodIn wsX0_isRing wsX5_divisor := goodIn_r _ [9, 10, 11, 12, 13, 14, 15, 16] (by decide +kernel) (by decide +kernel)
set_option maxRecDepth 20000 in
theorem gX0_isRing_X5_divisor : GoodIn wsX0_isRing (va_wsS RX0 31 yX5_divisor wsX5_divisor) := goodIn_app (goodIn_of _ (by decide +kernel)) ggX0_isRing_X5_divisor
theorem dX0_isRing_0 : decode cX0_isRing 0 = .ok (.iload_n 0, 1) := by decide +kernel
theorem dX0_isRing_1 : decode cX0_isRing 1 = .ok (.i2l, 1) := by decide +kernel
theorem dX0_isRing_2 : decode cX0_isRing 2 = .ok (.ldc2_w 23, 3) := by decide +kernel
theorem dX0_isRing_5 : decode cX0_isRing 5 = .ok (.ldc2_w 25, 3) := by decide +kernel
theorem dX0_isRing_8 : decode cX0_isRing 8 = .ok (.invokestatic 27, 3) := by decide +kernel
theorem dX0_isRing_11 : decode cX0_isRing 11 = .ok (.ifCond .eq 19, 3) := by decide +kernel
theorem dX0_isRing_14 : decode cX0_isRing 14 = .ok (.iload_n 1, 1) := by decide +kernel
theorem dX0_isRing_15 : decode cX0_isRing 15 = .ok (.i2l, 1) := by decide +kernel
theorem dX0_isRing_16 : decode cX0_isRing 16 = .ok (.iload_n 0, 1) := by decide +kernel
theorem dX0_isRing_17 : decode cX0_isRing 17 = .ok (.i2l, 1) := by decide +kernel
theorem dX0_isRing_18 : decode cX0_isRing 18 = .ok (.invokestatic 31, 3) := by decide +kernel
theorem dX0_isRing_21 : decode cX0_isRing 21 = .ok (.lconst 1, 1) := by decide +kernel
theorem dX0_isRing_22 : decode cX0_isRing 22 = .ok (.lcmp, 1) := by decide +kernel
theorem dX0_isRing_23 : decode cX0_isRing 23 = .ok (.ifCond .ne 7, 3) := by decide +kernel
theorem dX0_isRing_26 : decode cX0_isRing 26 = .ok (.iconst 1, 1) := by decide +kernel
theorem dX0_isRing_27 : decode cX0_isRing 27 = .ok (.goto 4, 3) := by decide +kernel
theorem dX0_isRing_30 : decode cX0_isRing 30 = .ok (.iconst 0, 1) := by decide +kernel
theorem dX0_isRing_31 : decode cX0_isRing 31 = .ok (.ireturn, 1) := by decide +kernel
theorem dX0_match_0 : decode cX0_match 0 = .ok (.iload_n 1, 1) := by decide +kernel
theorem dX0_match_1 : decode cX0_match 1 = .ok (.iload_n 2, 1) := by decide +kernel
theorem dX0_match_2 : decode cX0_match 2 = .ok (.if_icmp .eq 16, 3) := by decide +kernel
theorem dX0_match_5 : decode cX0_match 5 = .ok (.iload_n 0, 1) := by decide +kernel
theorem dX0_match_6 : decode cX0_match 6 = .ok (.ifCond .le 16, 3) := by decide +kernel
theorem dX0_match_9 : decode cX0_match 9 = .ok (.iload_n 1, 1) := by decide +kernel
theorem dX0_match_10 : decode cX0_match 10 = .ok (.iload_n 2, 1) := by decide +kernel
theorem dX0_match_11 : decode cX0_match 11 = .ok (.imul, 1) := by decide +kernel
theorem dX0_match_12 : decode cX0_match 12 = .ok (.iload_n 0, 1) := by decide +kernel
theorem dX0_match_13 : decode cX0_match 13 = .ok (.irem, 1) := by decide +kernel
theorem dX0_match_14 : decode cX0_match 14 = .ok (.iconst 1, 1) := by decide +kernel
theorem dX0_match_15 : decode cX0_match 15 = .ok (.if_icmp .ne 7, 3) := by decide +kernel
theorem dX0_match_18 : decode cX0_match 18 = .ok (.iconst 1, 1) := by decide +kernel
theorem dX0_match_19 : decode cX0_match 19 = .ok (.goto 4, 3) := by decide +kernel
theorem dX0_match_22 : decode cX0_match 22 = .ok (.iconst 0, 1) := by decide +kernel
theorem dX0_match_23 : decode cX0_match 23 = .ok (.ireturn, 1) := by decide +kernel
set_option maxRecDepth 20000 in
theorem ggX0_leastOf_J9_floorMod_7cf53 : GoodIn wsX0_leastOf wsJ9_floorMod_7cf53 := goodIn_r _ [8] (by decide +kernel) (by decide +kernel)
set_option maxRecDepth 20000 in
theorem gX0_leastOf_J9_floorMod_7cf53 : GoodIn wsX0_leastOf (va_wsS RX0 37 yJ9_floorMod_7cf53 wsJ9_floorMod_7cf53) := goodIn_app (goodIn_of _ (by decide +kernel)) ggX0_leastOf_J9_floorMod_7cf53
set_option maxRecDepth 20000 in
theorem ggX0_leastOf_X5_inverse : GoodIn wsX0_leastOf wsX5_inverse := goodIn_r _ [12, 13, 14, 7, 15] (by decide +kernel) (by decide +kernel)
set_option maxRecDepth 20000 in
theorem gX0_leastOf_X5_inverse : GoodIn wsX0_leastOf (va_wsS RX0 43 yX5_inverse wsX5_inverse) := goodIn_app (goodIn_of _ (by decide +kernel)) ggX0_leastOf_X5_inverse
theorem dX0_leastOf_0 : decode cX0_leastOf 0 = .ok (.iload_n 0, 1) := by decide +kernel
theorem dX0_leastOf_1 : decode cX0_leastOf 1 = .ok (.iconst 1, 1) := by decide +kernel
theorem dX0_leastOf_2 : decode cX0_leastOf 2 = .ok (.if_icmp .ge 5, 3) := by decide +kernel
theorem dX0_leastOf_5 : decode cX0_leastOf 5 = .ok (.iconst (-1), 1) := by decide +kernel
theorem dX0_leastOf_6 : decode cX0_leastOf 6 = .ok (.ireturn, 1) := by decide +kernel
theorem dX0_leastOf_7 : decode cX0_leastOf 7 = .ok (.iload_n 1, 1) := by decide +kernel
theorem dX0_leastOf_8 : decode cX0_leastOf 8 = .ok (.iload_n 0, 1) := by decide +kernel
theorem dX0_leastOf_9 : decode cX0_leastOf 9 = .ok (.invokestatic 37, 3) := by decide +kernel
theorem dX0_leastOf_12 : decode cX0_leastOf 12 = .ok (.istore_n 2, 1) := by decide +kernel
theorem dX0_leastOf_13 : decode cX0_leastOf 13 = .ok (.iload_n 1, 1) := by decide +kernel
theorem dX0_leastOf_14 : decode cX0_leastOf 14 = .ok (.i2l, 1) := by decide +kernel
theorem dX0_leastOf_15 : decode cX0_leastOf 15 = .ok (.iload_n 0, 1) := by decide +kernel
theorem dX0_leastOf_16 : decode cX0_leastOf 16 = .ok (.i2l, 1) := by decide +kernel
theorem dX0_leastOf_17 : decode cX0_leastOf 17 = .ok (.invokestatic 43, 3) := by decide +kernel
theorem dX0_leastOf_20 : decode cX0_leastOf 20 = .ok (.l2i, 1) := by decide +kernel
theorem dX0_leastOf_21 : decode cX0_leastOf 21 = .ok (.istore_n 3, 1) := by decide +kernel
theorem dX0_leastOf_22 : decode cX0_leastOf 22 = .ok (.iload_n 2, 1) := by decide +kernel
theorem dX0_leastOf_23 : decode cX0_leastOf 23 = .ok (.iload_n 0, 1) := by decide +kernel
theorem dX0_leastOf_24 : decode cX0_leastOf 24 = .ok (.iload_n 2, 1) := by decide +kernel
theorem dX0_leastOf_25 : decode cX0_leastOf 25 = .ok (.isub, 1) := by decide +kernel
theorem dX0_leastOf_26 : decode cX0_leastOf 26 = .ok (.invokestatic 46, 3) := by decide +kernel
theorem dX0_leastOf_29 : decode cX0_leastOf 29 = .ok (.iload_n 3, 1) := by decide +kernel
theorem dX0_leastOf_30 : decode cX0_leastOf 30 = .ok (.iload_n 0, 1) := by decide +kernel
theorem dX0_leastOf_31 : decode cX0_leastOf 31 = .ok (.iload_n 3, 1) := by decide +kernel
theorem dX0_leastOf_32 : decode cX0_leastOf 32 = .ok (.isub, 1) := by decide +kernel
theorem dX0_leastOf_33 : decode cX0_leastOf 33 = .ok (.invokestatic 46, 3) := by decide +kernel
theorem dX0_leastOf_36 : decode cX0_leastOf 36 = .ok (.invokestatic 46, 3) := by decide +kernel
theorem dX0_leastOf_39 : decode cX0_leastOf 39 = .ok (.ireturn, 1) := by decide +kernel
set_option maxRecDepth 20000 in
theorem ggX0_gather_X0_isRing : GoodIn wsX0_gather wsX0_isRing := goodIn_r _ [11, 12, 13, 14, 15, 16, 17, 18, 19, 20, 21, 5, 6, 7, 22, 23, 24] (by decide +kernel) (by decide +kernel)
set_option maxRecDepth 20000 in
theorem gX0_gather_X0_isRing : GoodIn wsX0_gather (va_wsS RX0 49 yX0_isRing wsX0_isRing) := goodIn_app (goodIn_of _ (by decide +kernel)) ggX0_gather_X0_isRing
set_option maxRecDepth 20000 in
theorem ggX0_gather_X0_leastOf : GoodIn wsX0_gather wsX0_leastOf := goodIn_r _ [27, 28, 29, 6, 30, 31, 32, 33, 34, 35, 36, 19, 37, 38, 39, 40] (by decide +kernel) (by decide +kernel)
set_option maxRecDepth 20000 in
theorem gX0_gather_X0_leastOf : GoodIn wsX0_gather (va_wsS RX0 53 yX0_leastOf wsX0_leastOf) := goodIn_app (goodIn_of _ (by decide +kernel)) ggX0_gather_X0_leastOf
set_option maxRecDepth 20000 in
theorem ggX0_gather_X5_twelfths : GoodIn wsX0_gather wsX5_twelfths := goodIn_r _ [43, 44, 38, 39, 33, 40] (by decide +kernel) (by decide +kernel)
set_option maxRecDepth 20000 in
theorem gX0_gather_X5_twelfths : GoodIn wsX0_gather (va_wsS RX0 56 yX5_twelfths wsX5_twelfths) := goodIn_app (goodIn_of _ (by decide +kernel)) ggX0_gather_X5_twelfths
theorem dX0_gather_0 : decode cX0_gather 0 = .ok (.aload_n 0, 1) := by decide +kernel
theorem dX0_gather_1 : decode cX0_gather 1 = .ok (.iconst 0, 1) := by decide +kernel
theorem dX0_gather_2 : decode cX0_gather 2 = .ok (.putfield 19, 3) := by decide +kernel
theorem dX0_gather_5 : decode cX0_gather 5 = .ok (.iconst 1, 1) := by decide +kernel
theorem dX0_gather_6 : decode cX0_gather 6 = .ok (.istore_n 2, 1) := by decide +kernel
theorem dX0_gather_7 : decode cX0_gather 7 = .ok (.iload_n 2, 1) := by decide +kernel
theorem dX0_gather_8 : decode cX0_gather 8 = .ok (.iload_n 1, 1) := by decide +kernel
theorem dX0_gather_9 : decode cX0_gather 9 = .ok (.iconst 2, 1) := by decide +kernel
theorem dX0_gather_10 : decode cX0_gather 10 = .ok (.idiv, 1) := by decide +kernel
theorem dX0_gather_11 : decode cX0_gather 11 = .ok (.if_icmp .gt 89, 3) := by decide +kernel
theorem dX0_gather_14 : decode cX0_gather 14 = .ok (.aload_n 0, 1) := by decide +kernel
theorem dX0_gather_15 : decode cX0_gather 15 = .ok (.getfield 19, 3) := by decide +kernel
theorem dX0_gather_18 : decode cX0_gather 18 = .ok (.aload_n 0, 1) := by decide +kernel
theorem dX0_gather_19 : decode cX0_gather 19 = .ok (.getfield 9, 3) := by decide +kernel
theorem dX0_gather_22 : decode cX0_gather 22 = .ok (.arraylength, 1) := by decide +kernel
theorem dX0_gather_23 : decode cX0_gather 23 = .ok (.if_icmp .ge 71, 3) := by decide +kernel
theorem dX0_gather_26 : decode cX0_gather 26 = .ok (.aload_n 0, 1) := by decide +kernel
theorem dX0_gather_27 : decode cX0_gather 27 = .ok (.getfield 19, 3) := by decide +kernel
theorem dX0_gather_30 : decode cX0_gather 30 = .ok (.aload_n 0, 1) := by decide +kernel
theorem dX0_gather_31 : decode cX0_gather 31 = .ok (.getfield 15, 3) := by decide +kernel
theorem dX0_gather_34 : decode cX0_gather 34 = .ok (.arraylength, 1) := by decide +kernel
theorem dX0_gather_35 : decode cX0_gather 35 = .ok (.if_icmp .ge 59, 3) := by decide +kernel
theorem dX0_gather_38 : decode cX0_gather 38 = .ok (.iload_n 1, 1) := by decide +kernel
theorem dX0_gather_39 : decode cX0_gather 39 = .ok (.iload_n 2, 1) := by decide +kernel
theorem dX0_gather_40 : decode cX0_gather 40 = .ok (.invokestatic 49, 3) := by decide +kernel
theorem dX0_gather_43 : decode cX0_gather 43 = .ok (.ifCond .eq 51, 3) := by decide +kernel
theorem dX0_gather_46 : decode cX0_gather 46 = .ok (.iload_n 1, 1) := by decide +kernel
theorem dX0_gather_47 : decode cX0_gather 47 = .ok (.iload_n 2, 1) := by decide +kernel
theorem dX0_gather_48 : decode cX0_gather 48 = .ok (.invokestatic 53, 3) := by decide +kernel
theorem dX0_gather_51 : decode cX0_gather 51 = .ok (.iload_n 2, 1) := by decide +kernel
theorem dX0_gather_52 : decode cX0_gather 52 = .ok (.if_icmp .ne 42, 3) := by decide +kernel
theorem dX0_gather_55 : decode cX0_gather 55 = .ok (.aload_n 0, 1) := by decide +kernel
theorem dX0_gather_56 : decode cX0_gather 56 = .ok (.getfield 9, 3) := by decide +kernel
theorem dX0_gather_59 : decode cX0_gather 59 = .ok (.aload_n 0, 1) := by decide +kernel
theorem dX0_gather_60 : decode cX0_gather 60 = .ok (.getfield 19, 3) := by decide +kernel
theorem dX0_gather_63 : decode cX0_gather 63 = .ok (.iload_n 2, 1) := by decide +kernel
theorem dX0_gather_64 : decode cX0_gather 64 = .ok (.iastore, 1) := by decide +kernel
theorem dX0_gather_65 : decode cX0_gather 65 = .ok (.aload_n 0, 1) := by decide +kernel
theorem dX0_gather_66 : decode cX0_gather 66 = .ok (.getfield 15, 3) := by decide +kernel
theorem dX0_gather_69 : decode cX0_gather 69 = .ok (.aload_n 0, 1) := by decide +kernel
theorem dX0_gather_70 : decode cX0_gather 70 = .ok (.getfield 19, 3) := by decide +kernel
theorem dX0_gather_73 : decode cX0_gather 73 = .ok (.iload_n 2, 1) := by decide +kernel
theorem dX0_gather_74 : decode cX0_gather 74 = .ok (.i2l, 1) := by decide +kernel
theorem dX0_gather_75 : decode cX0_gather 75 = .ok (.iload_n 1, 1) := by decide +kernel
theorem dX0_gather_76 : decode cX0_gather 76 = .ok (.i2l, 1) := by decide +kernel
theorem dX0_gather_77 : decode cX0_gather 77 = .ok (.invokestatic 56, 3) := by decide +kernel
theorem dX0_gather_80 : decode cX0_gather 80 = .ok (.invokestatic 59, 3) := by decide +kernel
theorem dX0_gather_83 : decode cX0_gather 83 = .ok (.lastore, 1) := by decide +kernel
theorem dX0_gather_84 : decode cX0_gather 84 = .ok (.aload_n 0, 1) := by decide +kernel
theorem dX0_gather_85 : decode cX0_gather 85 = .ok (.dup, 1) := by decide +kernel
theorem dX0_gather_86 : decode cX0_gather 86 = .ok (.getfield 19, 3) := by decide +kernel
theorem dX0_gather_89 : decode cX0_gather 89 = .ok (.iconst 1, 1) := by decide +kernel
theorem dX0_gather_90 : decode cX0_gather 90 = .ok (.iadd, 1) := by decide +kernel
theorem dX0_gather_91 : decode cX0_gather 91 = .ok (.putfield 19, 3) := by decide +kernel
theorem dX0_gather_94 : decode cX0_gather 94 = .ok (.iinc 2 1, 3) := by decide +kernel
theorem dX0_gather_97 : decode cX0_gather 97 = .ok (.goto (-90), 3) := by decide +kernel
theorem dX0_gather_100 : decode cX0_gather 100 = .ok (.return_, 1) := by decide +kernel
theorem dX0_numberAt_0 : decode cX0_numberAt 0 = .ok (.iload_n 1, 1) := by decide +kernel
theorem dX0_numberAt_1 : decode cX0_numberAt 1 = .ok (.iconst (-1), 1) := by decide +kernel
theorem dX0_numberAt_2 : decode cX0_numberAt 2 = .ok (.if_icmp .ne 8, 3) := by decide +kernel
theorem dX0_numberAt_5 : decode cX0_numberAt 5 = .ok (.aload_n 0, 1) := by decide +kernel
theorem dX0_numberAt_6 : decode cX0_numberAt 6 = .ok (.getfield 19, 3) := by decide +kernel
theorem dX0_numberAt_9 : decode cX0_numberAt 9 = .ok (.ireturn, 1) := by decide +kernel
theorem dX0_numberAt_10 : decode cX0_numberAt 10 = .ok (.iload_n 1, 1) := by decide +kernel
theorem dX0_numberAt_11 : decode cX0_numberAt 11 = .ok (.ifCond .lt 29, 3) := by decide +kernel
theorem dX0_numberAt_14 : decode cX0_numberAt 14 = .ok (.iload_n 1, 1) := by decide +kernel
theorem dX0_numberAt_15 : decode cX0_numberAt 15 = .ok (.aload_n 0, 1) := by decide +kernel
theorem dX0_numberAt_16 : decode cX0_numberAt 16 = .ok (.getfield 19, 3) := by decide +kernel
theorem dX0_numberAt_19 : decode cX0_numberAt 19 = .ok (.if_icmp .ge 21, 3) := by decide +kernel
theorem dX0_numberAt_22 : decode cX0_numberAt 22 = .ok (.iload_n 1, 1) := by decide +kernel
theorem dX0_numberAt_23 : decode cX0_numberAt 23 = .ok (.aload_n 0, 1) := by decide +kernel
theorem dX0_numberAt_24 : decode cX0_numberAt 24 = .ok (.getfield 9, 3) := by decide +kernel
theorem dX0_numberAt_27 : decode cX0_numberAt 27 = .ok (.arraylength, 1) := by decide +kernel
theorem dX0_numberAt_28 : decode cX0_numberAt 28 = .ok (.if_icmp .ge 12, 3) := by decide +kernel
theorem dX0_numberAt_31 : decode cX0_numberAt 31 = .ok (.aload_n 0, 1) := by decide +kernel
theorem dX0_numberAt_32 : decode cX0_numberAt 32 = .ok (.getfield 9, 3) := by decide +kernel
theorem dX0_numberAt_35 : decode cX0_numberAt 35 = .ok (.iload_n 1, 1) := by decide +kernel
theorem dX0_numberAt_36 : decode cX0_numberAt 36 = .ok (.iaload, 1) := by decide +kernel
theorem dX0_numberAt_37 : decode cX0_numberAt 37 = .ok (.goto 4, 3) := by decide +kernel
theorem dX0_numberAt_40 : decode cX0_numberAt 40 = .ok (.iconst (-1), 1) := by decide +kernel
theorem dX0_numberAt_41 : decode cX0_numberAt 41 = .ok (.ireturn, 1) := by decide +kernel
theorem dX0_twinsAt_0 : decode cX0_twinsAt 0 = .ok (.iconst 0, 1) := by decide +kernel
theorem dX0_twinsAt_1 : decode cX0_twinsAt 1 = .ok (.istore_n 2, 1) := by decide +kernel
theorem dX0_twinsAt_2 : decode cX0_twinsAt 2 = .ok (.aload_n 0, 1) := by decide +kernel
theorem dX0_twinsAt_3 : decode cX0_twinsAt 3 = .ok (.getfield 19, 3) := by decide +kernel
theorem dX0_twinsAt_6 : decode cX0_twinsAt 6 = .ok (.aload_n 0, 1) := by decide +kernel
theorem dX0_twinsAt_7 : decode cX0_twinsAt 7 = .ok (.getfield 9, 3) := by decide +kernel
theorem dX0_twinsAt_10 : decode cX0_twinsAt 10 = .ok (.arraylength, 1) := by decide +kernel
theorem dX0_twinsAt_11 : decode cX0_twinsAt 11 = .ok (.aload_n 0, 1) := by decide +kernel
theorem dX0_twinsAt_12 : decode cX0_twinsAt 12 = .ok (.getfield 15, 3) := by decide +kernel
theorem dX0_twinsAt_15 : decode cX0_twinsAt 15 = .ok (.arraylength, 1) := by decide +kernel
theorem dX0_twinsAt_16 : decode cX0_twinsAt 16 = .ok (.invokestatic 46, 3) := by decide +kernel
theorem dX0_twinsAt_19 : decode cX0_twinsAt 19 = .ok (.invokestatic 46, 3) := by decide +kernel
theorem dX0_twinsAt_22 : decode cX0_twinsAt 22 = .ok (.istore_n 3, 1) := by decide +kernel
theorem dX0_twinsAt_23 : decode cX0_twinsAt 23 = .ok (.iconst 0, 1) := by decide +kernel
theorem dX0_twinsAt_24 : decode cX0_twinsAt 24 = .ok (.istore 4, 2) := by decide +kernel
theorem dX0_twinsAt_26 : decode cX0_twinsAt 26 = .ok (.iload 4, 2) := by decide +kernel
theorem dX0_twinsAt_28 : decode cX0_twinsAt 28 = .ok (.iload_n 3, 1) := by decide +kernel
theorem dX0_twinsAt_29 : decode cX0_twinsAt 29 = .ok (.if_icmp .ge 73, 3) := by decide +kernel
theorem dX0_twinsAt_32 : decode cX0_twinsAt 32 = .ok (.iload 4, 2) := by decide +kernel
theorem dX0_twinsAt_34 : decode cX0_twinsAt 34 = .ok (.iconst 1, 1) := by decide +kernel
theorem dX0_twinsAt_35 : decode cX0_twinsAt 35 = .ok (.iadd, 1) := by decide +kernel
theorem dX0_twinsAt_36 : decode cX0_twinsAt 36 = .ok (.istore 5, 2) := by decide +kernel
theorem dX0_twinsAt_38 : decode cX0_twinsAt 38 = .ok (.iload 5, 2) := by decide +kernel
theorem dX0_twinsAt_40 : decode cX0_twinsAt 40 = .ok (.iload_n 3, 1) := by decide +kernel
theorem dX0_twinsAt_41 : decode cX0_twinsAt 41 = .ok (.if_icmp .ge 55, 3) := by decide +kernel
theorem dX0_twinsAt_44 : decode cX0_twinsAt 44 = .ok (.aload_n 0, 1) := by decide +kernel
theorem dX0_twinsAt_45 : decode cX0_twinsAt 45 = .ok (.getfield 15, 3) := by decide +kernel
theorem dX0_twinsAt_48 : decode cX0_twinsAt 48 = .ok (.iload 4, 2) := by decide +kernel
theorem dX0_twinsAt_50 : decode cX0_twinsAt 50 = .ok (.laload, 1) := by decide +kernel
theorem dX0_twinsAt_51 : decode cX0_twinsAt 51 = .ok (.aload_n 0, 1) := by decide +kernel
theorem dX0_twinsAt_52 : decode cX0_twinsAt 52 = .ok (.getfield 15, 3) := by decide +kernel
theorem dX0_twinsAt_55 : decode cX0_twinsAt 55 = .ok (.iload 5, 2) := by decide +kernel
theorem dX0_twinsAt_57 : decode cX0_twinsAt 57 = .ok (.laload, 1) := by decide +kernel
theorem dX0_twinsAt_58 : decode cX0_twinsAt 58 = .ok (.lcmp, 1) := by decide +kernel
theorem dX0_twinsAt_59 : decode cX0_twinsAt 59 = .ok (.ifCond .ne 31, 3) := by decide +kernel
theorem dX0_twinsAt_62 : decode cX0_twinsAt 62 = .ok (.iload_n 2, 1) := by decide +kernel
theorem dX0_twinsAt_63 : decode cX0_twinsAt 63 = .ok (.iload_n 1, 1) := by decide +kernel
theorem dX0_twinsAt_64 : decode cX0_twinsAt 64 = .ok (.if_icmp .ne 23, 3) := by decide +kernel
theorem dX0_twinsAt_67 : decode cX0_twinsAt 67 = .ok (.sipush 1000, 3) := by decide +kernel
theorem dX0_twinsAt_70 : decode cX0_twinsAt 70 = .ok (.aload_n 0, 1) := by decide +kernel
theorem dX0_twinsAt_71 : decode cX0_twinsAt 71 = .ok (.getfield 9, 3) := by decide +kernel
theorem dX0_twinsAt_74 : decode cX0_twinsAt 74 = .ok (.iload 4, 2) := by decide +kernel
theorem dX0_twinsAt_76 : decode cX0_twinsAt 76 = .ok (.iaload, 1) := by decide +kernel
theorem dX0_twinsAt_77 : decode cX0_twinsAt 77 = .ok (.imul, 1) := by decide +kernel
theorem dX0_twinsAt_78 : decode cX0_twinsAt 78 = .ok (.aload_n 0, 1) := by decide +kernel
theorem dX0_twinsAt_79 : decode cX0_twinsAt 79 = .ok (.getfield 9, 3) := by decide +kernel
theorem dX0_twinsAt_82 : decode cX0_twinsAt 82 = .ok (.iload 5, 2) := by decide +kernel
theorem dX0_twinsAt_84 : decode cX0_twinsAt 84 = .ok (.iaload, 1) := by decide +kernel
theorem dX0_twinsAt_85 : decode cX0_twinsAt 85 = .ok (.iadd, 1) := by decide +kernel
theorem dX0_twinsAt_86 : decode cX0_twinsAt 86 = .ok (.ireturn, 1) := by decide +kernel
theorem dX0_twinsAt_87 : decode cX0_twinsAt 87 = .ok (.iinc 2 1, 3) := by decide +kernel
theorem dX0_twinsAt_90 : decode cX0_twinsAt 90 = .ok (.iinc 5 1, 3) := by decide +kernel
theorem dX0_twinsAt_93 : decode cX0_twinsAt 93 = .ok (.goto (-55), 3) := by decide +kernel
theorem dX0_twinsAt_96 : decode cX0_twinsAt 96 = .ok (.iinc 4 1, 3) := by decide +kernel
theorem dX0_twinsAt_99 : decode cX0_twinsAt 99 = .ok (.goto (-73), 3) := by decide +kernel
theorem dX0_twinsAt_102 : decode cX0_twinsAt 102 = .ok (.iload_n 1, 1) := by decide +kernel
theorem dX0_twinsAt_103 : decode cX0_twinsAt 103 = .ok (.iconst (-1), 1) := by decide +kernel
theorem dX0_twinsAt_104 : decode cX0_twinsAt 104 = .ok (.if_icmp .ne 7, 3) := by decide +kernel
theorem dX0_twinsAt_107 : decode cX0_twinsAt 107 = .ok (.iload_n 2, 1) := by decide +kernel
theorem dX0_twinsAt_108 : decode cX0_twinsAt 108 = .ok (.goto 4, 3) := by decide +kernel
theorem dX0_twinsAt_111 : decode cX0_twinsAt 111 = .ok (.iconst (-1), 1) := by decide +kernel
theorem dX0_twinsAt_112 : decode cX0_twinsAt 112 = .ok (.ireturn, 1) := by decide +kernel
set_option maxRecDepth 20000 in
theorem ggX1_init_X5_divisor : GoodIn wsX1_init wsX5_divisor := goodIn_r _ [9, 10, 11, 12, 13, 14, 15, 16] (by decide +kernel) (by decide +kernel)
set_option maxRecDepth 20000 in
theorem gX1_init_X5_divisor : GoodIn wsX1_init (va_wsS RX1 7 yX5_divisor wsX5_divisor) := goodIn_app (goodIn_of _ (by decide +kernel)) ggX1_init_X5_divisor
theorem dX1_init_0 : decode cX1_init 0 = .ok (.aload_n 0, 1) := by decide +kernel
theorem dX1_init_1 : decode cX1_init 1 = .ok (.invokespecial 1, 3) := by decide +kernel
theorem dX1_init_4 : decode cX1_init 4 = .ok (.lload_n 1, 1) := by decide +kernel
theorem dX1_init_5 : decode cX1_init 5 = .ok (.lload_n 3, 1) := by decide +kernel
theorem dX1_init_6 : decode cX1_init 6 = .ok (.invokestatic 7, 3) := by decide +kernel
theorem dX1_init_9 : decode cX1_init 9 = .ok (.lstore 5, 2) := by decide +kernel
theorem dX1_init_11 : decode cX1_init 11 = .ok (.aload_n 0, 1) := by decide +kernel
theorem dX1_init_12 : decode cX1_init 12 = .ok (.lload_n 1, 1) := by decide +kernel
theorem dX1_init_13 : decode cX1_init 13 = .ok (.lload 5, 2) := by decide +kernel
theorem dX1_init_15 : decode cX1_init 15 = .ok (.ldiv, 1) := by decide +kernel
theorem dX1_init_16 : decode cX1_init 16 = .ok (.putfield 13, 3) := by decide +kernel
theorem dX1_init_19 : decode cX1_init 19 = .ok (.aload_n 0, 1) := by decide +kernel
theorem dX1_init_20 : decode cX1_init 20 = .ok (.lload_n 3, 1) := by decide +kernel
theorem dX1_init_21 : decode cX1_init 21 = .ok (.lload 5, 2) := by decide +kernel
theorem dX1_init_23 : decode cX1_init 23 = .ok (.ldiv, 1) := by decide +kernel
theorem dX1_init_24 : decode cX1_init 24 = .ok (.putfield 19, 3) := by decide +kernel
theorem dX1_init_27 : decode cX1_init 27 = .ok (.return_, 1) := by decide +kernel
set_option maxRecDepth 20000 in
theorem ggX1_ofSawSum_X5_twelfths : GoodIn wsX1_ofSawSum wsX5_twelfths := goodIn_r _ [8, 9, 10, 11, 12, 13] (by decide +kernel) (by decide +kernel)
set_option maxRecDepth 20000 in
theorem gX1_ofSawSum_X5_twelfths : GoodIn wsX1_ofSawSum (va_wsS RX1 22 yX5_twelfths wsX5_twelfths) := goodIn_app (goodIn_of _ (by decide +kernel)) ggX1_ofSawSum_X5_twelfths
set_option maxRecDepth 20000 in
theorem ggX1_ofSawSum_X1_init : GoodIn wsX1_ofSawSum wsX1_init := goodIn_r _ [16, 17, 18, 19, 20, 21, 22, 23, 7, 24, 25, 26, 27, 28, 29, 30, 31, 32, 33] (by decide +kernel) (by decide +kernel)
set_option maxRecDepth 20000 in
theorem gX1_ofSawSum_X1_init : GoodIn wsX1_ofSawSum (wsX1_init) := ggX1_ofSawSum_X1_init
theorem dX1_ofSawSum_0 : decode cX1_ofSawSum 0 = .ok (.new 14, 3) := by decide +kernel
theorem dX1_ofSawSum_3 : decode cX1_ofSawSum 3 = .ok (.dup, 1) := by decide +kernel
theorem dX1_ofSawSum_4 : decode cX1_ofSawSum 4 = .ok (.lload_n 0, 1) := by decide +kernel
theorem dX1_ofSawSum_5 : decode cX1_ofSawSum 5 = .ok (.lload_n 2, 1) := by decide +kernel
theorem dX1_ofSawSum_6 : decode cX1_ofSawSum 6 = .ok (.invokestatic 22, 3) := by decide +kernel
theorem dX1_ofSawSum_9 : decode cX1_ofSawSum 9 = .ok (.ldc2_w 25, 3) := by decide +kernel
theorem dX1_ofSawSum_12 : decode cX1_ofSawSum 12 = .ok (.lload_n 2, 1) := by decide +kernel
theorem dX1_ofSawSum_13 : decode cX1_ofSawSum 13 = .ok (.lmul, 1) := by decide +kernel
theorem dX1_ofSawSum_14 : decode cX1_ofSawSum 14 = .ok (.invokespecial 27, 3) := by decide +kernel
theorem dX1_ofSawSum_17 : decode cX1_ofSawSum 17 = .ok (.areturn, 1) := by decide +kernel
theorem dX1_part_0 : decode cX1_part 0 = .ok (.iload_n 1, 1) := by decide +kernel
theorem dX1_part_1 : decode cX1_part 1 = .ok (.ifCond .eq 10, 3) := by decide +kernel
theorem dX1_part_4 : decode cX1_part 4 = .ok (.aload_n 0, 1) := by decide +kernel
theorem dX1_part_5 : decode cX1_part 5 = .ok (.getfield 19, 3) := by decide +kernel
theorem dX1_part_8 : decode cX1_part 8 = .ok (.goto 7, 3) := by decide +kernel
theorem dX1_part_11 : decode cX1_part 11 = .ok (.aload_n 0, 1) := by decide +kernel
theorem dX1_part_12 : decode cX1_part 12 = .ok (.getfield 13, 3) := by decide +kernel
theorem dX1_part_15 : decode cX1_part 15 = .ok (.lreturn, 1) := by decide +kernel
theorem dX1_isWithin_0 : decode cX1_isWithin 0 = .ok (.aload_n 0, 1) := by decide +kernel
theorem dX1_isWithin_1 : decode cX1_isWithin 1 = .ok (.getfield 13, 3) := by decide +kernel
theorem dX1_isWithin_4 : decode cX1_isWithin 4 = .ok (.invokestatic 30, 3) := by decide +kernel
theorem dX1_isWithin_7 : decode cX1_isWithin 7 = .ok (.lload_n 1, 1) := by decide +kernel
theorem dX1_isWithin_8 : decode cX1_isWithin 8 = .ok (.lcmp, 1) := by decide +kernel
theorem dX1_isWithin_9 : decode cX1_isWithin 9 = .ok (.ifCond .gt 16, 3) := by decide +kernel
theorem dX1_isWithin_12 : decode cX1_isWithin 12 = .ok (.aload_n 0, 1) := by decide +kernel
theorem dX1_isWithin_13 : decode cX1_isWithin 13 = .ok (.getfield 19, 3) := by decide +kernel
theorem dX1_isWithin_16 : decode cX1_isWithin 16 = .ok (.lload_n 1, 1) := by decide +kernel
theorem dX1_isWithin_17 : decode cX1_isWithin 17 = .ok (.lcmp, 1) := by decide +kernel
theorem dX1_isWithin_18 : decode cX1_isWithin 18 = .ok (.ifCond .gt 7, 3) := by decide +kernel
theorem dX1_isWithin_21 : decode cX1_isWithin 21 = .ok (.iconst 1, 1) := by decide +kernel
theorem dX1_isWithin_22 : decode cX1_isWithin 22 = .ok (.goto 4, 3) := by decide +kernel
theorem dX1_isWithin_25 : decode cX1_isWithin 25 = .ok (.iconst 0, 1) := by decide +kernel
theorem dX1_isWithin_26 : decode cX1_isWithin 26 = .ok (.ireturn, 1) := by decide +kernel
set_option maxRecDepth 20000 in
theorem ggX1_sawOf_X1_init : GoodIn wsX1_sawOf wsX1_init := goodIn_r _ [9, 10, 11, 12, 6, 1, 13, 14, 15, 16, 17, 18, 19, 20, 21, 22, 23, 28, 29] (by decide +kernel) (by decide +kernel)
set_option maxRecDepth 20000 in
theorem gX1_sawOf_X1_init : GoodIn wsX1_sawOf (wsX1_init) := ggX1_sawOf_X1_init
set_option maxRecDepth 20000 in
theorem ggX1_sawOf_J9_floorMod_f86c9 : GoodIn wsX1_sawOf wsJ9_floorMod_f86c9 := goodIn_r _ [27] (by decide +kernel) (by decide +kernel)
set_option maxRecDepth 20000 in
theorem gX1_sawOf_J9_floorMod_f86c9 : GoodIn wsX1_sawOf (va_wsS RX1 38 yJ9_floorMod_f86c9 wsJ9_floorMod_f86c9) := goodIn_app (goodIn_of _ (by decide +kernel)) ggX1_sawOf_J9_floorMod_f86c9
theorem dX1_sawOf_0 : decode cX1_sawOf 0 = .ok (.aload_n 0, 1) := by decide +kernel
theorem dX1_sawOf_1 : decode cX1_sawOf 1 = .ok (.getfield 19, 3) := by decide +kernel
theorem dX1_sawOf_4 : decode cX1_sawOf 4 = .ok (.lconst 1, 1) := by decide +kernel
theorem dX1_sawOf_5 : decode cX1_sawOf 5 = .ok (.lcmp, 1) := by decide +kernel
theorem dX1_sawOf_6 : decode cX1_sawOf 6 = .ok (.ifCond .gt 13, 3) := by decide +kernel
theorem dX1_sawOf_9 : decode cX1_sawOf 9 = .ok (.new 14, 3) := by decide +kernel
theorem dX1_sawOf_12 : decode cX1_sawOf 12 = .ok (.dup, 1) := by decide +kernel
theorem dX1_sawOf_13 : decode cX1_sawOf 13 = .ok (.lconst 0, 1) := by decide +kernel
theorem dX1_sawOf_14 : decode cX1_sawOf 14 = .ok (.lconst 1, 1) := by decide +kernel
theorem dX1_sawOf_15 : decode cX1_sawOf 15 = .ok (.invokespecial 27, 3) := by decide +kernel
theorem dX1_sawOf_18 : decode cX1_sawOf 18 = .ok (.areturn, 1) := by decide +kernel
theorem dX1_sawOf_19 : decode cX1_sawOf 19 = .ok (.new 14, 3) := by decide +kernel
theorem dX1_sawOf_22 : decode cX1_sawOf 22 = .ok (.dup, 1) := by decide +kernel
theorem dX1_sawOf_23 : decode cX1_sawOf 23 = .ok (.ldc2_w 36, 3) := by decide +kernel
theorem dX1_sawOf_26 : decode cX1_sawOf 26 = .ok (.aload_n 0, 1) := by decide +kernel
theorem dX1_sawOf_27 : decode cX1_sawOf 27 = .ok (.getfield 13, 3) := by decide +kernel
theorem dX1_sawOf_30 : decode cX1_sawOf 30 = .ok (.aload_n 0, 1) := by decide +kernel
theorem dX1_sawOf_31 : decode cX1_sawOf 31 = .ok (.getfield 19, 3) := by decide +kernel
theorem dX1_sawOf_34 : decode cX1_sawOf 34 = .ok (.invokestatic 38, 3) := by decide +kernel
theorem dX1_sawOf_37 : decode cX1_sawOf 37 = .ok (.lmul, 1) := by decide +kernel
theorem dX1_sawOf_38 : decode cX1_sawOf 38 = .ok (.aload_n 0, 1) := by decide +kernel
theorem dX1_sawOf_39 : decode cX1_sawOf 39 = .ok (.getfield 19, 3) := by decide +kernel
theorem dX1_sawOf_42 : decode cX1_sawOf 42 = .ok (.lsub, 1) := by decide +kernel
theorem dX1_sawOf_43 : decode cX1_sawOf 43 = .ok (.ldc2_w 36, 3) := by decide +kernel
theorem dX1_sawOf_46 : decode cX1_sawOf 46 = .ok (.aload_n 0, 1) := by decide +kernel
theorem dX1_sawOf_47 : decode cX1_sawOf 47 = .ok (.getfield 19, 3) := by decide +kernel
theorem dX1_sawOf_50 : decode cX1_sawOf 50 = .ok (.lmul, 1) := by decide +kernel
theorem dX1_sawOf_51 : decode cX1_sawOf 51 = .ok (.invokespecial 27, 3) := by decide +kernel
theorem dX1_sawOf_54 : decode cX1_sawOf 54 = .ok (.areturn, 1) := by decide +kernel
set_option maxRecDepth 20000 in
theorem ggX1_opposite_X1_init : GoodIn wsX1_opposite wsX1_init := goodIn_r _ [8, 9, 10, 11, 4, 5, 12, 13, 14, 15, 16, 17, 18, 19, 20, 21, 22, 23, 24] (by decide +kernel) (by decide +kernel)
set_option maxRecDepth 20000 in
theorem gX1_opposite_X1_init : GoodIn wsX1_opposite (wsX1_init) := ggX1_opposite_X1_init
theorem dX1_opposite_0 : decode cX1_opposite 0 = .ok (.new 14, 3) := by decide +kernel
theorem dX1_opposite_3 : decode cX1_opposite 3 = .ok (.dup, 1) := by decide +kernel
theorem dX1_opposite_4 : decode cX1_opposite 4 = .ok (.aload_n 0, 1) := by decide +kernel
theorem dX1_opposite_5 : decode cX1_opposite 5 = .ok (.getfield 13, 3) := by decide +kernel
theorem dX1_opposite_8 : decode cX1_opposite 8 = .ok (.lneg, 1) := by decide +kernel
theorem dX1_opposite_9 : decode cX1_opposite 9 = .ok (.aload_n 0, 1) := by decide +kernel
theorem dX1_opposite_10 : decode cX1_opposite 10 = .ok (.getfield 19, 3) := by decide +kernel
theorem dX1_opposite_13 : decode cX1_opposite 13 = .ok (.invokespecial 27, 3) := by decide +kernel
theorem dX1_opposite_16 : decode cX1_opposite 16 = .ok (.areturn, 1) := by decide +kernel
set_option maxRecDepth 20000 in
theorem ggX1_plus_X1_init : GoodIn wsX1_plus wsX1_init := goodIn_r _ [8, 9, 10, 11, 4, 5, 12, 13, 14, 15, 16, 17, 18, 19, 20, 21, 22, 23, 24] (by decide +kernel) (by decide +kernel)
set_option maxRecDepth 20000 in
theorem gX1_plus_X1_init : GoodIn wsX1_plus (wsX1_init) := ggX1_plus_X1_init
theorem dX1_plus_0 : decode cX1_plus 0 = .ok (.new 14, 3) := by decide +kernel
theorem dX1_plus_3 : decode cX1_plus 3 = .ok (.dup, 1) := by decide +kernel
theorem dX1_plus_4 : decode cX1_plus 4 = .ok (.aload_n 0, 1) := by decide +kernel
theorem dX1_plus_5 : decode cX1_plus 5 = .ok (.getfield 13, 3) := by decide +kernel
theorem dX1_plus_8 : decode cX1_plus 8 = .ok (.aload_n 1, 1) := by decide +kernel
theorem dX1_plus_9 : decode cX1_plus 9 = .ok (.getfield 19, 3) := by decide +kernel
theorem dX1_plus_12 : decode cX1_plus 12 = .ok (.lmul, 1) := by decide +kernel
theorem dX1_plus_13 : decode cX1_plus 13 = .ok (.aload_n 1, 1) := by decide +kernel
theorem dX1_plus_14 : decode cX1_plus 14 = .ok (.getfield 13, 3) := by decide +kernel
theorem dX1_plus_17 : decode cX1_plus 17 = .ok (.aload_n 0, 1) := by decide +kernel
theorem dX1_plus_18 : decode cX1_plus 18 = .ok (.getfield 19, 3) := by decide +kernel
theorem dX1_plus_21 : decode cX1_plus 21 = .ok (.lmul, 1) := by decide +kernel
theorem dX1_plus_22 : decode cX1_plus 22 = .ok (.ladd, 1) := by decide +kernel
theorem dX1_plus_23 : decode cX1_plus 23 = .ok (.aload_n 0, 1) := by decide +kernel
theorem dX1_plus_24 : decode cX1_plus 24 = .ok (.getfield 19, 3) := by decide +kernel
theorem dX1_plus_27 : decode cX1_plus 27 = .ok (.aload_n 1, 1) := by decide +kernel
theorem dX1_plus_28 : decode cX1_plus 28 = .ok (.getfield 19, 3) := by decide +kernel
theorem dX1_plus_31 : decode cX1_plus 31 = .ok (.lmul, 1) := by decide +kernel
theorem dX1_plus_32 : decode cX1_plus 32 = .ok (.invokespecial 27, 3) := by decide +kernel
theorem dX1_plus_35 : decode cX1_plus 35 = .ok (.areturn, 1) := by decide +kernel
set_option maxRecDepth 20000 in
theorem ggX1_product_X1_init : GoodIn wsX1_product wsX1_init := goodIn_r _ [8, 9, 10, 11, 4, 5, 12, 13, 14, 15, 16, 17, 18, 19, 20, 21, 22, 23, 24] (by decide +kernel) (by decide +kernel)
set_option maxRecDepth 20000 in
theorem gX1_product_X1_init : GoodIn wsX1_product (wsX1_init) := ggX1_product_X1_init
theorem dX1_product_0 : decode cX1_product 0 = .ok (.new 14, 3) := by decide +kernel
theorem dX1_product_3 : decode cX1_product 3 = .ok (.dup, 1) := by decide +kernel
theorem dX1_product_4 : decode cX1_product 4 = .ok (.aload_n 0, 1) := by decide +kernel
theorem dX1_product_5 : decode cX1_product 5 = .ok (.getfield 13, 3) := by decide +kernel
theorem dX1_product_8 : decode cX1_product 8 = .ok (.aload_n 1, 1) := by decide +kernel
theorem dX1_product_9 : decode cX1_product 9 = .ok (.getfield 13, 3) := by decide +kernel
theorem dX1_product_12 : decode cX1_product 12 = .ok (.lmul, 1) := by decide +kernel
theorem dX1_product_13 : decode cX1_product 13 = .ok (.aload_n 0, 1) := by decide +kernel
theorem dX1_product_14 : decode cX1_product 14 = .ok (.getfield 19, 3) := by decide +kernel
theorem dX1_product_17 : decode cX1_product 17 = .ok (.aload_n 1, 1) := by decide +kernel
theorem dX1_product_18 : decode cX1_product 18 = .ok (.getfield 19, 3) := by decide +kernel
theorem dX1_product_21 : decode cX1_product 21 = .ok (.lmul, 1) := by decide +kernel
theorem dX1_product_22 : decode cX1_product 22 = .ok (.invokespecial 27, 3) := by decide +kernel
theorem dX1_product_25 : decode cX1_product 25 = .ok (.areturn, 1) := by decide +kernel
theorem dX2_init_0 : decode cX2_init 0 = .ok (.aload_n 0, 1) := by decide +kernel
theorem dX2_init_1 : decode cX2_init 1 = .ok (.invokespecial 3, 3) := by decide +kernel
theorem dX2_init_4 : decode cX2_init 4 = .ok (.aload_n 0, 1) := by decide +kernel
theorem dX2_init_5 : decode cX2_init 5 = .ok (.iconst 1, 1) := by decide +kernel
theorem dX2_init_6 : decode cX2_init 6 = .ok (.putfield 9, 3) := by decide +kernel
theorem dX2_init_9 : decode cX2_init 9 = .ok (.aload_n 0, 1) := by decide +kernel
theorem dX2_init_10 : decode cX2_init 10 = .ok (.iconst 0, 1) := by decide +kernel
theorem dX2_init_11 : decode cX2_init 11 = .ok (.putfield 15, 3) := by decide +kernel
theorem dX2_init_14 : decode cX2_init 14 = .ok (.aload_n 0, 1) := by decide +kernel
theorem dX2_init_15 : decode cX2_init 15 = .ok (.iconst 0, 1) := by decide +kernel
theorem dX2_init_16 : decode cX2_init 16 = .ok (.putfield 18, 3) := by decide +kernel
theorem dX2_init_19 : decode cX2_init 19 = .ok (.aload_n 0, 1) := by decide +kernel
theorem dX2_init_20 : decode cX2_init 20 = .ok (.iconst 1, 1) := by decide +kernel
theorem dX2_init_21 : decode cX2_init 21 = .ok (.putfield 21, 3) := by decide +kernel
theorem dX2_init_24 : decode cX2_init 24 = .ok (.return_, 1) := by decide +kernel
set_option maxRecDepth 20000 in
theorem ggX2_isMatrix_X6_lies : GoodIn wsX2_isMatrix wsX6_lies := goodIn_r _ [5] (by decide +kernel) (by decide +kernel)
set_option maxRecDepth 20000 in
theorem gX2_isMatrix_X6_lies_n28 : GoodIn wsX2_isMatrix (wsX6_lies) := ggX2_isMatrix_X6_lies
theorem dX2_isMatrix_0 : decode cX2_isMatrix 0 = .ok (.lload_n 0, 1) := by decide +kernel
theorem dX2_isMatrix_1 : decode cX2_isMatrix 1 = .ok (.ldc2_w 24, 3) := by decide +kernel
theorem dX2_isMatrix_4 : decode cX2_isMatrix 4 = .ok (.ldc2_w 26, 3) := by decide +kernel
theorem dX2_isMatrix_7 : decode cX2_isMatrix 7 = .ok (.invokestatic 28, 3) := by decide +kernel
theorem dX2_isMatrix_10 : decode cX2_isMatrix 10 = .ok (.ifCond .eq 62, 3) := by decide +kernel
theorem dX2_isMatrix_13 : decode cX2_isMatrix 13 = .ok (.lload_n 2, 1) := by decide +kernel
theorem dX2_isMatrix_14 : decode cX2_isMatrix 14 = .ok (.ldc2_w 24, 3) := by decide +kernel
theorem dX2_isMatrix_17 : decode cX2_isMatrix 17 = .ok (.ldc2_w 26, 3) := by decide +kernel
theorem dX2_isMatrix_20 : decode cX2_isMatrix 20 = .ok (.invokestatic 28, 3) := by decide +kernel
theorem dX2_isMatrix_23 : decode cX2_isMatrix 23 = .ok (.ifCond .eq 49, 3) := by decide +kernel
theorem dX2_isMatrix_26 : decode cX2_isMatrix 26 = .ok (.lload 4, 2) := by decide +kernel
theorem dX2_isMatrix_28 : decode cX2_isMatrix 28 = .ok (.ldc2_w 24, 3) := by decide +kernel
theorem dX2_isMatrix_31 : decode cX2_isMatrix 31 = .ok (.ldc2_w 26, 3) := by decide +kernel
theorem dX2_isMatrix_34 : decode cX2_isMatrix 34 = .ok (.invokestatic 28, 3) := by decide +kernel
theorem dX2_isMatrix_37 : decode cX2_isMatrix 37 = .ok (.ifCond .eq 35, 3) := by decide +kernel
theorem dX2_isMatrix_40 : decode cX2_isMatrix 40 = .ok (.lload 6, 2) := by decide +kernel
theorem dX2_isMatrix_42 : decode cX2_isMatrix 42 = .ok (.ldc2_w 24, 3) := by decide +kernel
theorem dX2_isMatrix_45 : decode cX2_isMatrix 45 = .ok (.ldc2_w 26, 3) := by decide +kernel
theorem dX2_isMatrix_48 : decode cX2_isMatrix 48 = .ok (.invokestatic 28, 3) := by decide +kernel
theorem dX2_isMatrix_51 : decode cX2_isMatrix 51 = .ok (.ifCond .eq 21, 3) := by decide +kernel
theorem dX2_isMatrix_54 : decode cX2_isMatrix 54 = .ok (.lload_n 0, 1) := by decide +kernel
theorem dX2_isMatrix_55 : decode cX2_isMatrix 55 = .ok (.lload 6, 2) := by decide +kernel
theorem dX2_isMatrix_57 : decode cX2_isMatrix 57 = .ok (.lmul, 1) := by decide +kernel
theorem dX2_isMatrix_58 : decode cX2_isMatrix 58 = .ok (.lload_n 2, 1) := by decide +kernel
theorem dX2_isMatrix_59 : decode cX2_isMatrix 59 = .ok (.lload 4, 2) := by decide +kernel
theorem dX2_isMatrix_61 : decode cX2_isMatrix 61 = .ok (.lmul, 1) := by decide +kernel
theorem dX2_isMatrix_62 : decode cX2_isMatrix 62 = .ok (.lsub, 1) := by decide +kernel
theorem dX2_isMatrix_63 : decode cX2_isMatrix 63 = .ok (.lconst 1, 1) := by decide +kernel
theorem dX2_isMatrix_64 : decode cX2_isMatrix 64 = .ok (.lcmp, 1) := by decide +kernel
theorem dX2_isMatrix_65 : decode cX2_isMatrix 65 = .ok (.ifCond .ne 7, 3) := by decide +kernel
theorem dX2_isMatrix_68 : decode cX2_isMatrix 68 = .ok (.iconst 1, 1) := by decide +kernel
theorem dX2_isMatrix_69 : decode cX2_isMatrix 69 = .ok (.goto 4, 3) := by decide +kernel
theorem dX2_isMatrix_72 : decode cX2_isMatrix 72 = .ok (.iconst 0, 1) := by decide +kernel
theorem dX2_isMatrix_73 : decode cX2_isMatrix 73 = .ok (.ireturn, 1) := by decide +kernel
set_option maxRecDepth 20000 in
theorem ggX2_become_X2_isMatrix : GoodIn wsX2_become wsX2_isMatrix := goodIn_r _ [8, 9, 10, 11, 12, 13] (by decide +kernel) (by decide +kernel)
set_option maxRecDepth 20000 in
theorem gX2_become_X2_isMatrix : GoodIn wsX2_become (va_wsS RX2 32 yX2_isMatrix wsX2_isMatrix) := goodIn_app (goodIn_of _ (by decide +kernel)) ggX2_become_X2_isMatrix
theorem dX2_become_0 : decode cX2_become 0 = .ok (.lload_n 1, 1) := by decide +kernel
theorem dX2_become_1 : decode cX2_become 1 = .ok (.lload_n 3, 1) := by decide +kernel
theorem dX2_become_2 : decode cX2_become 2 = .ok (.lload 5, 2) := by decide +kernel
theorem dX2_become_4 : decode cX2_become 4 = .ok (.lload 7, 2) := by decide +kernel
theorem dX2_become_6 : decode cX2_become 6 = .ok (.invokestatic 32, 3) := by decide +kernel
theorem dX2_become_9 : decode cX2_become 9 = .ok (.ifCond .ne 5, 3) := by decide +kernel
theorem dX2_become_12 : decode cX2_become 12 = .ok (.iconst 0, 1) := by decide +kernel
theorem dX2_become_13 : decode cX2_become 13 = .ok (.ireturn, 1) := by decide +kernel
theorem dX2_become_14 : decode cX2_become 14 = .ok (.aload_n 0, 1) := by decide +kernel
theorem dX2_become_15 : decode cX2_become 15 = .ok (.lload_n 1, 1) := by decide +kernel
theorem dX2_become_16 : decode cX2_become 16 = .ok (.l2i, 1) := by decide +kernel
theorem dX2_become_17 : decode cX2_become 17 = .ok (.putfield 9, 3) := by decide +kernel
theorem dX2_become_20 : decode cX2_become 20 = .ok (.aload_n 0, 1) := by decide +kernel
theorem dX2_become_21 : decode cX2_become 21 = .ok (.lload_n 3, 1) := by decide +kernel
theorem dX2_become_22 : decode cX2_become 22 = .ok (.l2i, 1) := by decide +kernel
theorem dX2_become_23 : decode cX2_become 23 = .ok (.putfield 15, 3) := by decide +kernel
theorem dX2_become_26 : decode cX2_become 26 = .ok (.aload_n 0, 1) := by decide +kernel
theorem dX2_become_27 : decode cX2_become 27 = .ok (.lload 5, 2) := by decide +kernel
theorem dX2_become_29 : decode cX2_become 29 = .ok (.l2i, 1) := by decide +kernel
theorem dX2_become_30 : decode cX2_become 30 = .ok (.putfield 18, 3) := by decide +kernel
theorem dX2_become_33 : decode cX2_become 33 = .ok (.aload_n 0, 1) := by decide +kernel
theorem dX2_become_34 : decode cX2_become 34 = .ok (.lload 7, 2) := by decide +kernel
theorem dX2_become_36 : decode cX2_become 36 = .ok (.l2i, 1) := by decide +kernel
theorem dX2_become_37 : decode cX2_become 37 = .ok (.putfield 21, 3) := by decide +kernel
theorem dX2_become_40 : decode cX2_become 40 = .ok (.iconst 1, 1) := by decide +kernel
theorem dX2_become_41 : decode cX2_become 41 = .ok (.ireturn, 1) := by decide +kernel
set_option maxRecDepth 20000 in
theorem ggX2_multiply_X2_become : GoodIn wsX2_multiply wsX2_become := goodIn_r _ [9, 1, 2, 3, 4, 10, 11, 8, 12, 13, 14, 15, 16, 17, 18, 19, 20, 21] (by decide +kernel) (by decide +kernel)
set_option maxRecDepth 20000 in
theorem gX2_multiply_X2_become : GoodIn wsX2_multiply (wsV RX2 36 RX2 yX2_become wsX2_become) := goodIn_app (goodIn_of _ (by decide +kernel)) ggX2_multiply_X2_become
theorem dX2_multiply_0 : decode cX2_multiply 0 = .ok (.aload_n 0, 1) := by decide +kernel
theorem dX2_multiply_1 : decode cX2_multiply 1 = .ok (.aload_n 0, 1) := by decide +kernel
theorem dX2_multiply_2 : decode cX2_multiply 2 = .ok (.getfield 9, 3) := by decide +kernel
theorem dX2_multiply_5 : decode cX2_multiply 5 = .ok (.i2l, 1) := by decide +kernel
theorem dX2_multiply_6 : decode cX2_multiply 6 = .ok (.lload_n 1, 1) := by decide +kernel
theorem dX2_multiply_7 : decode cX2_multiply 7 = .ok (.lmul, 1) := by decide +kernel
theorem dX2_multiply_8 : decode cX2_multiply 8 = .ok (.aload_n 0, 1) := by decide +kernel
theorem dX2_multiply_9 : decode cX2_multiply 9 = .ok (.getfield 15, 3) := by decide +kernel
theorem dX2_multiply_12 : decode cX2_multiply 12 = .ok (.i2l, 1) := by decide +kernel
theorem dX2_multiply_13 : decode cX2_multiply 13 = .ok (.lload 5, 2) := by decide +kernel
theorem dX2_multiply_15 : decode cX2_multiply 15 = .ok (.lmul, 1) := by decide +kernel
theorem dX2_multiply_16 : decode cX2_multiply 16 = .ok (.ladd, 1) := by decide +kernel
theorem dX2_multiply_17 : decode cX2_multiply 17 = .ok (.aload_n 0, 1) := by decide +kernel
theorem dX2_multiply_18 : decode cX2_multiply 18 = .ok (.getfield 9, 3) := by decide +kernel
theorem dX2_multiply_21 : decode cX2_multiply 21 = .ok (.i2l, 1) := by decide +kernel
theorem dX2_multiply_22 : decode cX2_multiply 22 = .ok (.lload_n 3, 1) := by decide +kernel
theorem dX2_multiply_23 : decode cX2_multiply 23 = .ok (.lmul, 1) := by decide +kernel
theorem dX2_multiply_24 : decode cX2_multiply 24 = .ok (.aload_n 0, 1) := by decide +kernel
theorem dX2_multiply_25 : decode cX2_multiply 25 = .ok (.getfield 15, 3) := by decide +kernel
theorem dX2_multiply_28 : decode cX2_multiply 28 = .ok (.i2l, 1) := by decide +kernel
theorem dX2_multiply_29 : decode cX2_multiply 29 = .ok (.lload 7, 2) := by decide +kernel
theorem dX2_multiply_31 : decode cX2_multiply 31 = .ok (.lmul, 1) := by decide +kernel
theorem dX2_multiply_32 : decode cX2_multiply 32 = .ok (.ladd, 1) := by decide +kernel
theorem dX2_multiply_33 : decode cX2_multiply 33 = .ok (.aload_n 0, 1) := by decide +kernel
theorem dX2_multiply_34 : decode cX2_multiply 34 = .ok (.getfield 18, 3) := by decide +kernel
theorem dX2_multiply_37 : decode cX2_multiply 37 = .ok (.i2l, 1) := by decide +kernel
theorem dX2_multiply_38 : decode cX2_multiply 38 = .ok (.lload_n 1, 1) := by decide +kernel
theorem dX2_multiply_39 : decode cX2_multiply 39 = .ok (.lmul, 1) := by decide +kernel
theorem dX2_multiply_40 : decode cX2_multiply 40 = .ok (.aload_n 0, 1) := by decide +kernel
theorem dX2_multiply_41 : decode cX2_multiply 41 = .ok (.getfield 21, 3) := by decide +kernel
theorem dX2_multiply_44 : decode cX2_multiply 44 = .ok (.i2l, 1) := by decide +kernel
theorem dX2_multiply_45 : decode cX2_multiply 45 = .ok (.lload 5, 2) := by decide +kernel
theorem dX2_multiply_47 : decode cX2_multiply 47 = .ok (.lmul, 1) := by decide +kernel
theorem dX2_multiply_48 : decode cX2_multiply 48 = .ok (.ladd, 1) := by decide +kernel
theorem dX2_multiply_49 : decode cX2_multiply 49 = .ok (.aload_n 0, 1) := by decide +kernel
theorem dX2_multiply_50 : decode cX2_multiply 50 = .ok (.getfield 18, 3) := by decide +kernel
theorem dX2_multiply_53 : decode cX2_multiply 53 = .ok (.i2l, 1) := by decide +kernel
theorem dX2_multiply_54 : decode cX2_multiply 54 = .ok (.lload_n 3, 1) := by decide +kernel
theorem dX2_multiply_55 : decode cX2_multiply 55 = .ok (.lmul, 1) := by decide +kernel
theorem dX2_multiply_56 : decode cX2_multiply 56 = .ok (.aload_n 0, 1) := by decide +kernel
theorem dX2_multiply_57 : decode cX2_multiply 57 = .ok (.getfield 21, 3) := by decide +kernel
theorem dX2_multiply_60 : decode cX2_multiply 60 = .ok (.i2l, 1) := by decide +kernel
theorem dX2_multiply_61 : decode cX2_multiply 61 = .ok (.lload 7, 2) := by decide +kernel
theorem dX2_multiply_63 : decode cX2_multiply 63 = .ok (.lmul, 1) := by decide +kernel
theorem dX2_multiply_64 : decode cX2_multiply 64 = .ok (.ladd, 1) := by decide +kernel
theorem dX2_multiply_65 : decode cX2_multiply 65 = .ok (.invokevirtual 36, 3) := by decide +kernel
theorem dX2_multiply_68 : decode cX2_multiply 68 = .ok (.ireturn, 1) := by decide +kernel
theorem dX2_trace_0 : decode cX2_trace 0 = .ok (.aload_n 0, 1) := by decide +kernel
theorem dX2_trace_1 : decode cX2_trace 1 = .ok (.getfield 9, 3) := by decide +kernel
theorem dX2_trace_4 : decode cX2_trace 4 = .ok (.i2l, 1) := by decide +kernel
theorem dX2_trace_5 : decode cX2_trace 5 = .ok (.aload_n 0, 1) := by decide +kernel
theorem dX2_trace_6 : decode cX2_trace 6 = .ok (.getfield 21, 3) := by decide +kernel
theorem dX2_trace_9 : decode cX2_trace 9 = .ok (.i2l, 1) := by decide +kernel
theorem dX2_trace_10 : decode cX2_trace 10 = .ok (.ladd, 1) := by decide +kernel
theorem dX2_trace_11 : decode cX2_trace 11 = .ok (.lreturn, 1) := by decide +kernel
set_option maxRecDepth 20000 in
theorem ggX2_companion_X2_trace : GoodIn wsX2_companion wsX2_trace := goodIn_r _ [12, 13, 3, 23, 24, 25, 26] (by decide +kernel) (by decide +kernel)
set_option maxRecDepth 20000 in
theorem gX2_companion_X2_trace : GoodIn wsX2_companion (wsV RX2 45 RX2 yX2_trace wsX2_trace) := goodIn_app (goodIn_of _ (by decide +kernel)) ggX2_companion_X2_trace
set_option maxRecDepth 20000 in
theorem ggX2_companion_X5_twelfths : GoodIn wsX2_companion wsX5_twelfths := goodIn_r _ [17, 18, 19, 20, 21, 22] (by decide +kernel) (by decide +kernel)
set_option maxRecDepth 20000 in
theorem gX2_companion_X5_twelfths : GoodIn wsX2_companion (va_wsS RX2 49 yX5_twelfths wsX5_twelfths) := goodIn_app (goodIn_of _ (by decide +kernel)) ggX2_companion_X5_twelfths
theorem dX2_companion_0 : decode cX2_companion 0 = .ok (.aload_n 0, 1) := by decide +kernel
theorem dX2_companion_1 : decode cX2_companion 1 = .ok (.getfield 18, 3) := by decide +kernel
theorem dX2_companion_4 : decode cX2_companion 4 = .ok (.ifCond .ne 15, 3) := by decide +kernel
theorem dX2_companion_7 : decode cX2_companion 7 = .ok (.aload_n 0, 1) := by decide +kernel
theorem dX2_companion_8 : decode cX2_companion 8 = .ok (.getfield 15, 3) := by decide +kernel
theorem dX2_companion_11 : decode cX2_companion 11 = .ok (.i2l, 1) := by decide +kernel
theorem dX2_companion_12 : decode cX2_companion 12 = .ok (.aload_n 0, 1) := by decide +kernel
theorem dX2_companion_13 : decode cX2_companion 13 = .ok (.getfield 21, 3) := by decide +kernel
theorem dX2_companion_16 : decode cX2_companion 16 = .ok (.i2l, 1) := by decide +kernel
theorem dX2_companion_17 : decode cX2_companion 17 = .ok (.lmul, 1) := by decide +kernel
theorem dX2_companion_18 : decode cX2_companion 18 = .ok (.lreturn, 1) := by decide +kernel
theorem dX2_companion_19 : decode cX2_companion 19 = .ok (.aload_n 0, 1) := by decide +kernel
theorem dX2_companion_20 : decode cX2_companion 20 = .ok (.getfield 18, 3) := by decide +kernel
theorem dX2_companion_23 : decode cX2_companion 23 = .ok (.i2l, 1) := by decide +kernel
theorem dX2_companion_24 : decode cX2_companion 24 = .ok (.invokestatic 39, 3) := by decide +kernel
theorem dX2_companion_27 : decode cX2_companion 27 = .ok (.lstore_n 1, 1) := by decide +kernel
theorem dX2_companion_28 : decode cX2_companion 28 = .ok (.aload_n 0, 1) := by decide +kernel
theorem dX2_companion_29 : decode cX2_companion 29 = .ok (.invokevirtual 45, 3) := by decide +kernel
theorem dX2_companion_32 : decode cX2_companion 32 = .ok (.aload_n 0, 1) := by decide +kernel
theorem dX2_companion_33 : decode cX2_companion 33 = .ok (.getfield 21, 3) := by decide +kernel
theorem dX2_companion_36 : decode cX2_companion 36 = .ok (.i2l, 1) := by decide +kernel
theorem dX2_companion_37 : decode cX2_companion 37 = .ok (.lload_n 1, 1) := by decide +kernel
theorem dX2_companion_38 : decode cX2_companion 38 = .ok (.invokestatic 49, 3) := by decide +kernel
theorem dX2_companion_41 : decode cX2_companion 41 = .ok (.lsub, 1) := by decide +kernel
theorem dX2_companion_42 : decode cX2_companion 42 = .ok (.lload_n 1, 1) := by decide +kernel
theorem dX2_companion_43 : decode cX2_companion 43 = .ok (.ldiv, 1) := by decide +kernel
theorem dX2_companion_44 : decode cX2_companion 44 = .ok (.lstore_n 3, 1) := by decide +kernel
theorem dX2_companion_45 : decode cX2_companion 45 = .ok (.aload_n 0, 1) := by decide +kernel
theorem dX2_companion_46 : decode cX2_companion 46 = .ok (.getfield 18, 3) := by decide +kernel
theorem dX2_companion_49 : decode cX2_companion 49 = .ok (.ifCond .ge 8, 3) := by decide +kernel
theorem dX2_companion_52 : decode cX2_companion 52 = .ok (.lload_n 3, 1) := by decide +kernel
theorem dX2_companion_53 : decode cX2_companion 53 = .ok (.lneg, 1) := by decide +kernel
theorem dX2_companion_54 : decode cX2_companion 54 = .ok (.goto 4, 3) := by decide +kernel
theorem dX2_companion_57 : decode cX2_companion 57 = .ok (.lload_n 3, 1) := by decide +kernel
theorem dX2_companion_58 : decode cX2_companion 58 = .ok (.lreturn, 1) := by decide +kernel
set_option maxRecDepth 20000 in
theorem ggX2_fewestPowers_X2_trace : GoodIn wsX2_fewestPowers wsX2_trace := goodIn_r _ [9, 3, 10, 11, 12, 13, 14] (by decide +kernel) (by decide +kernel)
set_option maxRecDepth 20000 in
theorem gX2_fewestPowers_X2_trace : GoodIn wsX2_fewestPowers (wsV RX2 45 RX2 yX2_trace wsX2_trace) := goodIn_app (goodIn_of _ (by decide +kernel)) ggX2_fewestPowers_X2_trace
theorem dX2_fewestPowers_0 : decode cX2_fewestPowers 0 = .ok (.aload_n 0, 1) := by decide +kernel
theorem dX2_fewestPowers_1 : decode cX2_fewestPowers 1 = .ok (.getfield 15, 3) := by decide +kernel
theorem dX2_fewestPowers_4 : decode cX2_fewestPowers 4 = .ok (.ifCond .ne 24, 3) := by decide +kernel
theorem dX2_fewestPowers_7 : decode cX2_fewestPowers 7 = .ok (.aload_n 0, 1) := by decide +kernel
theorem dX2_fewestPowers_8 : decode cX2_fewestPowers 8 = .ok (.getfield 18, 3) := by decide +kernel
theorem dX2_fewestPowers_11 : decode cX2_fewestPowers 11 = .ok (.ifCond .ne 17, 3) := by decide +kernel
theorem dX2_fewestPowers_14 : decode cX2_fewestPowers 14 = .ok (.aload_n 0, 1) := by decide +kernel
theorem dX2_fewestPowers_15 : decode cX2_fewestPowers 15 = .ok (.getfield 9, 3) := by decide +kernel
theorem dX2_fewestPowers_18 : decode cX2_fewestPowers 18 = .ok (.iconst 1, 1) := by decide +kernel
theorem dX2_fewestPowers_19 : decode cX2_fewestPowers 19 = .ok (.if_icmp .ne 7, 3) := by decide +kernel
theorem dX2_fewestPowers_22 : decode cX2_fewestPowers 22 = .ok (.iconst 1, 1) := by decide +kernel
theorem dX2_fewestPowers_23 : decode cX2_fewestPowers 23 = .ok (.goto 4, 3) := by decide +kernel
theorem dX2_fewestPowers_26 : decode cX2_fewestPowers 26 = .ok (.iconst 2, 1) := by decide +kernel
theorem dX2_fewestPowers_27 : decode cX2_fewestPowers 27 = .ok (.ireturn, 1) := by decide +kernel
theorem dX2_fewestPowers_28 : decode cX2_fewestPowers 28 = .ok (.aload_n 0, 1) := by decide +kernel
theorem dX2_fewestPowers_29 : decode cX2_fewestPowers 29 = .ok (.invokevirtual 45, 3) := by decide +kernel
theorem dX2_fewestPowers_32 : decode cX2_fewestPowers 32 = .ok (.lstore_n 1, 1) := by decide +kernel
theorem dX2_fewestPowers_33 : decode cX2_fewestPowers 33 = .ok (.lload_n 1, 1) := by decide +kernel
theorem dX2_fewestPowers_34 : decode cX2_fewestPowers 34 = .ok (.lconst 0, 1) := by decide +kernel
theorem dX2_fewestPowers_35 : decode cX2_fewestPowers 35 = .ok (.lcmp, 1) := by decide +kernel
theorem dX2_fewestPowers_36 : decode cX2_fewestPowers 36 = .ok (.ifCond .ne 5, 3) := by decide +kernel
theorem dX2_fewestPowers_39 : decode cX2_fewestPowers 39 = .ok (.iconst 4, 1) := by decide +kernel
theorem dX2_fewestPowers_40 : decode cX2_fewestPowers 40 = .ok (.ireturn, 1) := by decide +kernel
theorem dX2_fewestPowers_41 : decode cX2_fewestPowers 41 = .ok (.lload_n 1, 1) := by decide +kernel
theorem dX2_fewestPowers_42 : decode cX2_fewestPowers 42 = .ok (.lconst 1, 1) := by decide +kernel
theorem dX2_fewestPowers_43 : decode cX2_fewestPowers 43 = .ok (.lcmp, 1) := by decide +kernel
theorem dX2_fewestPowers_44 : decode cX2_fewestPowers 44 = .ok (.ifCond .ne 6, 3) := by decide +kernel
theorem dX2_fewestPowers_47 : decode cX2_fewestPowers 47 = .ok (.bipush 6, 2) := by decide +kernel
theorem dX2_fewestPowers_49 : decode cX2_fewestPowers 49 = .ok (.ireturn, 1) := by decide +kernel
theorem dX2_fewestPowers_50 : decode cX2_fewestPowers 50 = .ok (.lload_n 1, 1) := by decide +kernel
theorem dX2_fewestPowers_51 : decode cX2_fewestPowers 51 = .ok (.ldc2_w 55, 3) := by decide +kernel
theorem dX2_fewestPowers_54 : decode cX2_fewestPowers 54 = .ok (.lcmp, 1) := by decide +kernel
theorem dX2_fewestPowers_55 : decode cX2_fewestPowers 55 = .ok (.ifCond .ne 7, 3) := by decide +kernel
theorem dX2_fewestPowers_58 : decode cX2_fewestPowers 58 = .ok (.iconst 3, 1) := by decide +kernel
theorem dX2_fewestPowers_59 : decode cX2_fewestPowers 59 = .ok (.goto 4, 3) := by decide +kernel
theorem dX2_fewestPowers_62 : decode cX2_fewestPowers 62 = .ok (.iconst (-1), 1) := by decide +kernel
theorem dX2_fewestPowers_63 : decode cX2_fewestPowers 63 = .ok (.ireturn, 1) := by decide +kernel
set_option maxRecDepth 20000 in
theorem ggX2_partOfWord_J9_floorDiv_f86c9 : GoodIn wsX2_partOfWord wsJ9_floorDiv_f86c9 := goodIn_r _ [10] (by decide +kernel) (by decide +kernel)
set_option maxRecDepth 20000 in
theorem gX2_partOfWord_J9_floorDiv_f86c9 : GoodIn wsX2_partOfWord (va_wsS RX2 59 yJ9_floorDiv_f86c9 wsJ9_floorDiv_f86c9) := goodIn_app (goodIn_of _ (by decide +kernel)) ggX2_partOfWord_J9_floorDiv_f86c9
theorem dX2_partOfWord_0 : decode cX2_partOfWord 0 = .ok (.aload_n 0, 1) := by decide +kernel
theorem dX2_partOfWord_1 : decode cX2_partOfWord 1 = .ok (.getfield 9, 3) := by decide +kernel
theorem dX2_partOfWord_4 : decode cX2_partOfWord 4 = .ok (.i2l, 1) := by decide +kernel
theorem dX2_partOfWord_5 : decode cX2_partOfWord 5 = .ok (.lstore_n 2, 1) := by decide +kernel
theorem dX2_partOfWord_6 : decode cX2_partOfWord 6 = .ok (.aload_n 0, 1) := by decide +kernel
theorem dX2_partOfWord_7 : decode cX2_partOfWord 7 = .ok (.getfield 15, 3) := by decide +kernel
theorem dX2_partOfWord_10 : decode cX2_partOfWord 10 = .ok (.i2l, 1) := by decide +kernel
theorem dX2_partOfWord_11 : decode cX2_partOfWord 11 = .ok (.lstore 4, 2) := by decide +kernel
theorem dX2_partOfWord_13 : decode cX2_partOfWord 13 = .ok (.aload_n 0, 1) := by decide +kernel
theorem dX2_partOfWord_14 : decode cX2_partOfWord 14 = .ok (.getfield 18, 3) := by decide +kernel
theorem dX2_partOfWord_17 : decode cX2_partOfWord 17 = .ok (.i2l, 1) := by decide +kernel
theorem dX2_partOfWord_18 : decode cX2_partOfWord 18 = .ok (.lstore 6, 2) := by decide +kernel
theorem dX2_partOfWord_20 : decode cX2_partOfWord 20 = .ok (.aload_n 0, 1) := by decide +kernel
theorem dX2_partOfWord_21 : decode cX2_partOfWord 21 = .ok (.getfield 21, 3) := by decide +kernel
theorem dX2_partOfWord_24 : decode cX2_partOfWord 24 = .ok (.i2l, 1) := by decide +kernel
theorem dX2_partOfWord_25 : decode cX2_partOfWord 25 = .ok (.lstore 8, 2) := by decide +kernel
theorem dX2_partOfWord_27 : decode cX2_partOfWord 27 = .ok (.iconst 0, 1) := by decide +kernel
theorem dX2_partOfWord_28 : decode cX2_partOfWord 28 = .ok (.istore 10, 2) := by decide +kernel
theorem dX2_partOfWord_30 : decode cX2_partOfWord 30 = .ok (.iload 10, 2) := by decide +kernel
theorem dX2_partOfWord_32 : decode cX2_partOfWord 32 = .ok (.sipush 200, 3) := by decide +kernel
theorem dX2_partOfWord_35 : decode cX2_partOfWord 35 = .ok (.if_icmp .ge 78, 3) := by decide +kernel
theorem dX2_partOfWord_38 : decode cX2_partOfWord 38 = .ok (.lload 6, 2) := by decide +kernel
theorem dX2_partOfWord_40 : decode cX2_partOfWord 40 = .ok (.lconst 0, 1) := by decide +kernel
theorem dX2_partOfWord_41 : decode cX2_partOfWord 41 = .ok (.lcmp, 1) := by decide +kernel
theorem dX2_partOfWord_42 : decode cX2_partOfWord 42 = .ok (.ifCond .eq 71, 3) := by decide +kernel
theorem dX2_partOfWord_45 : decode cX2_partOfWord 45 = .ok (.ldc2_w 57, 3) := by decide +kernel
theorem dX2_partOfWord_48 : decode cX2_partOfWord 48 = .ok (.lload_n 2, 1) := by decide +kernel
theorem dX2_partOfWord_49 : decode cX2_partOfWord 49 = .ok (.lmul, 1) := by decide +kernel
theorem dX2_partOfWord_50 : decode cX2_partOfWord 50 = .ok (.lload 6, 2) := by decide +kernel
theorem dX2_partOfWord_52 : decode cX2_partOfWord 52 = .ok (.ladd, 1) := by decide +kernel
theorem dX2_partOfWord_53 : decode cX2_partOfWord 53 = .ok (.ldc2_w 57, 3) := by decide +kernel
theorem dX2_partOfWord_56 : decode cX2_partOfWord 56 = .ok (.lload 6, 2) := by decide +kernel
theorem dX2_partOfWord_58 : decode cX2_partOfWord 58 = .ok (.lmul, 1) := by decide +kernel
theorem dX2_partOfWord_59 : decode cX2_partOfWord 59 = .ok (.invokestatic 59, 3) := by decide +kernel
theorem dX2_partOfWord_62 : decode cX2_partOfWord 62 = .ok (.lstore 11, 2) := by decide +kernel
theorem dX2_partOfWord_64 : decode cX2_partOfWord 64 = .ok (.iload 10, 2) := by decide +kernel
theorem dX2_partOfWord_66 : decode cX2_partOfWord 66 = .ok (.iload_n 1, 1) := by decide +kernel
theorem dX2_partOfWord_67 : decode cX2_partOfWord 67 = .ok (.if_icmp .ne 6, 3) := by decide +kernel
theorem dX2_partOfWord_70 : decode cX2_partOfWord 70 = .ok (.lload 11, 2) := by decide +kernel
theorem dX2_partOfWord_72 : decode cX2_partOfWord 72 = .ok (.lreturn, 1) := by decide +kernel
theorem dX2_partOfWord_73 : decode cX2_partOfWord 73 = .ok (.lload 11, 2) := by decide +kernel
theorem dX2_partOfWord_75 : decode cX2_partOfWord 75 = .ok (.lload 6, 2) := by decide +kernel
theorem dX2_partOfWord_77 : decode cX2_partOfWord 77 = .ok (.lmul, 1) := by decide +kernel
theorem dX2_partOfWord_78 : decode cX2_partOfWord 78 = .ok (.lload_n 2, 1) := by decide +kernel
theorem dX2_partOfWord_79 : decode cX2_partOfWord 79 = .ok (.lsub, 1) := by decide +kernel
theorem dX2_partOfWord_80 : decode cX2_partOfWord 80 = .ok (.lstore 13, 2) := by decide +kernel
theorem dX2_partOfWord_82 : decode cX2_partOfWord 82 = .ok (.lload 11, 2) := by decide +kernel
theorem dX2_partOfWord_84 : decode cX2_partOfWord 84 = .ok (.lload 8, 2) := by decide +kernel
theorem dX2_partOfWord_86 : decode cX2_partOfWord 86 = .ok (.lmul, 1) := by decide +kernel
theorem dX2_partOfWord_87 : decode cX2_partOfWord 87 = .ok (.lload 4, 2) := by decide +kernel
theorem dX2_partOfWord_89 : decode cX2_partOfWord 89 = .ok (.lsub, 1) := by decide +kernel
theorem dX2_partOfWord_90 : decode cX2_partOfWord 90 = .ok (.lstore 15, 2) := by decide +kernel
theorem dX2_partOfWord_92 : decode cX2_partOfWord 92 = .ok (.lload 6, 2) := by decide +kernel
theorem dX2_partOfWord_94 : decode cX2_partOfWord 94 = .ok (.lstore_n 2, 1) := by decide +kernel
theorem dX2_partOfWord_95 : decode cX2_partOfWord 95 = .ok (.lload 8, 2) := by decide +kernel
theorem dX2_partOfWord_97 : decode cX2_partOfWord 97 = .ok (.lstore 4, 2) := by decide +kernel
theorem dX2_partOfWord_99 : decode cX2_partOfWord 99 = .ok (.lload 13, 2) := by decide +kernel
theorem dX2_partOfWord_101 : decode cX2_partOfWord 101 = .ok (.lstore 6, 2) := by decide +kernel
theorem dX2_partOfWord_103 : decode cX2_partOfWord 103 = .ok (.lload 15, 2) := by decide +kernel
theorem dX2_partOfWord_105 : decode cX2_partOfWord 105 = .ok (.lstore 8, 2) := by decide +kernel
theorem dX2_partOfWord_107 : decode cX2_partOfWord 107 = .ok (.iinc 10 1, 3) := by decide +kernel
theorem dX2_partOfWord_110 : decode cX2_partOfWord 110 = .ok (.goto (-80), 3) := by decide +kernel
theorem dX2_partOfWord_113 : decode cX2_partOfWord 113 = .ok (.iload 10, 2) := by decide +kernel
theorem dX2_partOfWord_115 : decode cX2_partOfWord 115 = .ok (.iload_n 1, 1) := by decide +kernel
theorem dX2_partOfWord_116 : decode cX2_partOfWord 116 = .ok (.if_icmp .ne 9, 3) := by decide +kernel
theorem dX2_partOfWord_119 : decode cX2_partOfWord 119 = .ok (.lload 4, 2) := by decide +kernel
theorem dX2_partOfWord_121 : decode cX2_partOfWord 121 = .ok (.lload 8, 2) := by decide +kernel
theorem dX2_partOfWord_123 : decode cX2_partOfWord 123 = .ok (.lmul, 1) := by decide +kernel
theorem dX2_partOfWord_124 : decode cX2_partOfWord 124 = .ok (.lreturn, 1) := by decide +kernel
theorem dX2_partOfWord_125 : decode cX2_partOfWord 125 = .ok (.iload_n 1, 1) := by decide +kernel
theorem dX2_partOfWord_126 : decode cX2_partOfWord 126 = .ok (.iconst (-1), 1) := by decide +kernel
theorem dX2_partOfWord_127 : decode cX2_partOfWord 127 = .ok (.if_icmp .ne 11, 3) := by decide +kernel
theorem dX2_partOfWord_130 : decode cX2_partOfWord 130 = .ok (.iload 10, 2) := by decide +kernel
theorem dX2_partOfWord_132 : decode cX2_partOfWord 132 = .ok (.iconst 1, 1) := by decide +kernel
theorem dX2_partOfWord_133 : decode cX2_partOfWord 133 = .ok (.iadd, 1) := by decide +kernel
theorem dX2_partOfWord_134 : decode cX2_partOfWord 134 = .ok (.i2l, 1) := by decide +kernel
theorem dX2_partOfWord_135 : decode cX2_partOfWord 135 = .ok (.goto 6, 3) := by decide +kernel
theorem dX2_partOfWord_138 : decode cX2_partOfWord 138 = .ok (.ldc2_w 62, 3) := by decide +kernel
theorem dX2_partOfWord_141 : decode cX2_partOfWord 141 = .ok (.lreturn, 1) := by decide +kernel
set_option maxRecDepth 20000 in
theorem ggX3_init_X4_init : GoodIn wsX3_init wsX4_init := goodIn_r _ [20, 21, 2, 3, 22, 23, 24, 25, 26, 27, 28, 46, 47, 48, 49, 50, 51] (by decide +kernel) (by decide +kernel)
set_option maxRecDepth 20000 in
theorem gX3_init_X4_init : GoodIn wsX3_init (wsX4_init) := ggX3_init_X4_init
set_option maxRecDepth 20000 in
theorem ggX3_init_X1_init : GoodIn wsX3_init wsX1_init := goodIn_r _ [31, 32, 2, 3, 33, 34, 35, 36, 37, 38, 39, 40, 41, 42, 43, 44, 45, 60, 61] (by decide +kernel) (by decide +kernel)
set_option maxRecDepth 20000 in
theorem gX3_init_X1_init : GoodIn wsX3_init (wsX1_init) := ggX3_init_X1_init
theorem dX3_init_0 : decode cX3_init 0 = .ok (.aload_n 0, 1) := by decide +kernel
theorem dX3_init_1 : decode cX3_init 1 = .ok (.invokespecial 3, 3) := by decide +kernel
theorem dX3_init_4 : decode cX3_init 4 = .ok (.aload_n 0, 1) := by decide +kernel
theorem dX3_init_5 : decode cX3_init 5 = .ok (.new 9, 3) := by decide +kernel
theorem dX3_init_8 : decode cX3_init 8 = .ok (.dup, 1) := by decide +kernel
theorem dX3_init_9 : decode cX3_init 9 = .ok (.aload_n 1, 1) := by decide +kernel
theorem dX3_init_10 : decode cX3_init 10 = .ok (.invokespecial 11, 3) := by decide +kernel
theorem dX3_init_13 : decode cX3_init 13 = .ok (.putfield 14, 3) := by decide +kernel
theorem dX3_init_16 : decode cX3_init 16 = .ok (.aload_n 0, 1) := by decide +kernel
theorem dX3_init_17 : decode cX3_init 17 = .ok (.aload_n 2, 1) := by decide +kernel
theorem dX3_init_18 : decode cX3_init 18 = .ok (.putfield 20, 3) := by decide +kernel
theorem dX3_init_21 : decode cX3_init 21 = .ok (.aload_n 0, 1) := by decide +kernel
theorem dX3_init_22 : decode cX3_init 22 = .ok (.new 24, 3) := by decide +kernel
theorem dX3_init_25 : decode cX3_init 25 = .ok (.dup, 1) := by decide +kernel
theorem dX3_init_26 : decode cX3_init 26 = .ok (.lconst 0, 1) := by decide +kernel
theorem dX3_init_27 : decode cX3_init 27 = .ok (.lconst 1, 1) := by decide +kernel
theorem dX3_init_28 : decode cX3_init 28 = .ok (.invokespecial 26, 3) := by decide +kernel
theorem dX3_init_31 : decode cX3_init 31 = .ok (.putfield 29, 3) := by decide +kernel
theorem dX3_init_34 : decode cX3_init 34 = .ok (.aload_n 0, 1) := by decide +kernel
theorem dX3_init_35 : decode cX3_init 35 = .ok (.iconst 0, 1) := by decide +kernel
theorem dX3_init_36 : decode cX3_init 36 = .ok (.putfield 33, 3) := by decide +kernel
theorem dX3_init_39 : decode cX3_init 39 = .ok (.aload_n 0, 1) := by decide +kernel
theorem dX3_init_40 : decode cX3_init 40 = .ok (.iconst (-1), 1) := by decide +kernel
theorem dX3_init_41 : decode cX3_init 41 = .ok (.putfield 37, 3) := by decide +kernel
theorem dX3_init_44 : decode cX3_init 44 = .ok (.aload_n 0, 1) := by decide +kernel
theorem dX3_init_45 : decode cX3_init 45 = .ok (.iconst 0, 1) := by decide +kernel
theorem dX3_init_46 : decode cX3_init 46 = .ok (.putfield 40, 3) := by decide +kernel
theorem dX3_init_49 : decode cX3_init 49 = .ok (.aload_n 0, 1) := by decide +kernel
theorem dX3_init_50 : decode cX3_init 50 = .ok (.iconst 0, 1) := by decide +kernel
theorem dX3_init_51 : decode cX3_init 51 = .ok (.putfield 43, 3) := by decide +kernel
theorem dX3_init_54 : decode cX3_init 54 = .ok (.aload_n 0, 1) := by decide +kernel
theorem dX3_init_55 : decode cX3_init 55 = .ok (.iconst 0, 1) := by decide +kernel
theorem dX3_init_56 : decode cX3_init 56 = .ok (.putfield 46, 3) := by decide +kernel
theorem dX3_init_59 : decode cX3_init 59 = .ok (.return_, 1) := by decide +kernel
set_option maxRecDepth 20000 in
theorem ggX3_workOut_X4_cut : GoodIn wsX3_workOut wsX4_cut := goodIn_r _ [11, 12, 13, 14, 15, 16, 17, 18, 19, 20, 21, 10, 22, 23, 24, 25, 26, 27, 28, 29, 30, 31, 32, 33, 34, 35, 36, 37, 38, 39, 40, 41, 42, 43, 44, 45, 46, 47, 48, 49, 50, 51, 52, 53, 54, 55, 56, 57, 58, 59, 60, 61, 62, 63, 64, 65, 66, 67, 68, 69, 70, 71, 72, 73, 74, 75, 76, 77, 78, 79, 80, 81, 82, 83, 84, 85, 86, 87, 88, 89, 90, 91, 92, 93, 94, 95, 96, 97, 98, 99, 100, 101, 102, 256, 257, 258, 259, 260, 261] (by decide +kernel) (by decide +kernel)
set_option maxRecDepth 20000 in
theorem gX3_workOut_X4_cut : GoodIn wsX3_workOut (wsV RX3 49 RX4 yX4_cut wsX4_cut) := goodIn_app (goodIn_of _ (by decide +kernel)) ggX3_workOut_X4_cut
set_option maxRecDepth 20000 in
theorem ggX3_workOut_X4_kindAt : GoodIn wsX3_workOut wsX4_kindAt := goodIn_r _ [106, 18, 96, 256, 257, 258, 259, 260, 261] (by decide +kernel) (by decide +kernel)
set_option maxRecDepth 20000 in
theorem gX3_workOut_X4_kindAt : GoodIn wsX3_workOut (wsV RX3 53 RX4 yX4_kindAt wsX4_kindAt) := goodIn_app (goodIn_of _ (by decide +kernel)) ggX3_workOut_X4_kindAt
set_option maxRecDepth 20000 in
theorem ggX3_workOut_X3_readSum : GoodIn wsX3_workOut wsX3_readSum := goodIn_r _ [111, 3, 2, 112, 113, 114, 110, 115, 116, 117, 118, 4, 1, 103, 104, 105, 10, 106, 18, 96, 119, 120, 121, 122, 123, 124, 125, 126, 127, 128, 129, 130, 131, 132, 133, 134, 135, 136, 137, 138, 139, 15, 140, 141, 142, 143, 144, 145, 146, 147, 148, 149, 150, 151, 152, 5, 153, 154, 155, 156, 157, 158, 159, 160, 161, 162, 97, 17, 163, 164, 165, 166, 167, 168, 169, 170, 171, 172, 173, 174, 175, 107, 108, 109, 176, 177, 178, 179, 180, 181, 182, 183, 184, 185, 186, 187, 188, 189, 190, 191, 192, 193, 194, 195, 196, 197, 198, 199, 200, 201, 202, 98, 203, 204, 205, 206, 207, 208, 209, 210, 211, 212, 213, 214, 215, 216, 217, 218, 219, 6, 220, 221, 222, 223, 224, 225, 226, 227, 228, 229, 230, 231, 232, 233, 234, 235, 236, 237, 238, 239, 240, 241, 242, 243, 244, 245, 246, 247, 248, 249, 250, 251, 252, 253, 254, 255, 256, 257, 258, 259, 260, 261, 262, 263, 264, 265, 266, 267] (by decide +kernel) (by decide +kernel)
set_option maxRecDepth 20000 in
theorem gX3_workOut_X3_readSum : GoodIn wsX3_workOut (wsV RX3 57 RX3 yX3_readSum wsX3_readSum) := goodIn_app (goodIn_of _ (by decide +kernel)) ggX3_workOut_X3_readSum
set_option maxRecDepth 20000 in
theorem ggX3_workOut_X3_refuse : GoodIn wsX3_workOut wsX3_refuse := goodIn_r _ [171, 4, 1, 2, 3, 159, 160, 161, 10, 162, 18, 97, 17, 248, 249, 250, 251, 252, 253, 254, 255, 256, 257, 258, 259, 260, 261] (by decide +kernel) (by decide +kernel)
set_option maxRecDepth 20000 in
theorem gX3_workOut_X3_refuse : GoodIn wsX3_workOut (wsV RX3 61 RX3 yX3_refuse wsX3_refuse) := goodIn_app (goodIn_of _ (by decide +kernel)) ggX3_workOut_X3_refuse
theorem dX3_workOut_0 : decode cX3_workOut 0 = .ok (.aload_n 0, 1) := by decide +kernel
theorem dX3_workOut_1 : decode cX3_workOut 1 = .ok (.getfield 14, 3) := by decide +kernel
theorem dX3_workOut_4 : decode cX3_workOut 4 = .ok (.iload_n 1, 1) := by decide +kernel
theorem dX3_workOut_5 : decode cX3_workOut 5 = .ok (.invokevirtual 49, 3) := by decide +kernel
theorem dX3_workOut_8 : decode cX3_workOut 8 = .ok (.aload_n 0, 1) := by decide +kernel
theorem dX3_workOut_9 : decode cX3_workOut 9 = .ok (.iconst 0, 1) := by decide +kernel
theorem dX3_workOut_10 : decode cX3_workOut 10 = .ok (.putfield 33, 3) := by decide +kernel
theorem dX3_workOut_13 : decode cX3_workOut 13 = .ok (.aload_n 0, 1) := by decide +kernel
theorem dX3_workOut_14 : decode cX3_workOut 14 = .ok (.aload_n 0, 1) := by decide +kernel
theorem dX3_workOut_15 : decode cX3_workOut 15 = .ok (.getfield 14, 3) := by decide +kernel
theorem dX3_workOut_18 : decode cX3_workOut 18 = .ok (.iconst 0, 1) := by decide +kernel
theorem dX3_workOut_19 : decode cX3_workOut 19 = .ok (.invokevirtual 53, 3) := by decide +kernel
theorem dX3_workOut_22 : decode cX3_workOut 22 = .ok (.putfield 37, 3) := by decide +kernel
theorem dX3_workOut_25 : decode cX3_workOut 25 = .ok (.aload_n 0, 1) := by decide +kernel
theorem dX3_workOut_26 : decode cX3_workOut 26 = .ok (.iconst 0, 1) := by decide +kernel
theorem dX3_workOut_27 : decode cX3_workOut 27 = .ok (.putfield 40, 3) := by decide +kernel
theorem dX3_workOut_30 : decode cX3_workOut 30 = .ok (.aload_n 0, 1) := by decide +kernel
theorem dX3_workOut_31 : decode cX3_workOut 31 = .ok (.iconst 0, 1) := by decide +kernel
theorem dX3_workOut_32 : decode cX3_workOut 32 = .ok (.putfield 43, 3) := by decide +kernel
theorem dX3_workOut_35 : decode cX3_workOut 35 = .ok (.aload_n 0, 1) := by decide +kernel
theorem dX3_workOut_36 : decode cX3_workOut 36 = .ok (.iconst 0, 1) := by decide +kernel
theorem dX3_workOut_37 : decode cX3_workOut 37 = .ok (.putfield 46, 3) := by decide +kernel
theorem dX3_workOut_40 : decode cX3_workOut 40 = .ok (.aload_n 0, 1) := by decide +kernel
theorem dX3_workOut_41 : decode cX3_workOut 41 = .ok (.iconst 0, 1) := by decide +kernel
theorem dX3_workOut_42 : decode cX3_workOut 42 = .ok (.invokevirtual 57, 3) := by decide +kernel
theorem dX3_workOut_45 : decode cX3_workOut 45 = .ok (.astore_n 2, 1) := by decide +kernel
theorem dX3_workOut_46 : decode cX3_workOut 46 = .ok (.aload_n 0, 1) := by decide +kernel
theorem dX3_workOut_47 : decode cX3_workOut 47 = .ok (.getfield 37, 3) := by decide +kernel
theorem dX3_workOut_50 : decode cX3_workOut 50 = .ok (.iconst (-1), 1) := by decide +kernel
theorem dX3_workOut_51 : decode cX3_workOut 51 = .ok (.if_icmp .eq 8, 3) := by decide +kernel
theorem dX3_workOut_54 : decode cX3_workOut 54 = .ok (.aload_n 0, 1) := by decide +kernel
theorem dX3_workOut_55 : decode cX3_workOut 55 = .ok (.iconst 1, 1) := by decide +kernel
theorem dX3_workOut_56 : decode cX3_workOut 56 = .ok (.invokevirtual 61, 3) := by decide +kernel
theorem dX3_workOut_59 : decode cX3_workOut 59 = .ok (.aload_n 2, 1) := by decide +kernel
theorem dX3_workOut_60 : decode cX3_workOut 60 = .ok (.areturn, 1) := by decide +kernel
theorem dX3_fault_0 : decode cX3_fault 0 = .ok (.aload_n 0, 1) := by decide +kernel
theorem dX3_fault_1 : decode cX3_fault 1 = .ok (.getfield 40, 3) := by decide +kernel
theorem dX3_fault_4 : decode cX3_fault 4 = .ok (.ifCond .eq 10, 3) := by decide +kernel
theorem dX3_fault_7 : decode cX3_fault 7 = .ok (.aload_n 0, 1) := by decide +kernel
theorem dX3_fault_8 : decode cX3_fault 8 = .ok (.getfield 40, 3) := by decide +kernel
theorem dX3_fault_11 : decode cX3_fault 11 = .ok (.goto 7, 3) := by decide +kernel
theorem dX3_fault_14 : decode cX3_fault 14 = .ok (.aload_n 0, 1) := by decide +kernel
theorem dX3_fault_15 : decode cX3_fault 15 = .ok (.getfield 43, 3) := by decide +kernel
theorem dX3_fault_18 : decode cX3_fault 18 = .ok (.ireturn, 1) := by decide +kernel
set_option maxRecDepth 20000 in
theorem ggX3_readSum_X3_readTerm : GoodIn wsX3_readSum wsX3_readTerm := goodIn_r _ [88, 1, 2, 89, 90, 91, 6, 7, 8, 9, 10, 11, 12, 13, 14, 15, 16, 17, 18, 19, 92, 93, 94, 23, 95, 25, 26, 27, 28, 29, 30, 31, 32, 33, 34, 35, 36, 37, 38, 39, 40, 41, 42, 43, 44, 45, 50, 51, 52, 53, 54, 55, 56, 57, 58, 59, 60, 61, 62, 63, 64, 65, 66, 67, 68, 69, 70, 71, 72, 73, 74, 75, 76, 77, 78, 79, 80, 81, 82, 83, 84, 85, 86, 87, 20, 21, 22, 24, 0, 3, 4, 5, 46, 47, 48, 49, 96, 97, 98, 99, 100, 101, 102, 103, 104, 105, 106, 107, 108, 109, 110, 111, 112, 113, 114, 115, 116, 117, 118, 119, 120, 121, 122, 123, 124, 125, 126, 127, 128, 129, 130, 131, 132, 133, 134, 135, 136, 137, 138, 139, 140, 141, 142, 143, 144, 145, 146, 147, 148, 149, 150, 151, 152, 153, 154, 155, 156, 157, 158, 159, 160, 161, 162, 163, 164, 165, 166, 167, 168, 169, 170, 171, 172, 173, 174, 175, 176, 177] (by decide +kernel) (by decide +kernel)
set_option maxRecDepth 20000 in
theorem gX3_readSum_X3_readTerm : GoodIn wsX3_readSum (wsV RX3 64 RX3 yX3_readTerm wsX3_readTerm) := goodIn_app (goodIn_of _ (by decide +kernel)) ggX3_readSum_X3_readTerm
set_option maxRecDepth 20000 in
theorem ggX3_readSum_X3_advance : GoodIn wsX3_readSum wsX3_advance := goodIn_r _ [10, 11, 2, 12, 1, 13, 14, 15, 16, 17, 18, 19, 158, 159, 160, 161, 162, 163, 164, 165, 166, 167, 168, 169, 170, 171] (by decide +kernel) (by decide +kernel)
set_option maxRecDepth 20000 in
theorem gX3_readSum_X3_advance : GoodIn wsX3_readSum (wsV RX3 67 RX3 yX3_advance wsX3_advance) := goodIn_app (goodIn_of _ (by decide +kernel)) ggX3_readSum_X3_advance
set_option maxRecDepth 20000 in
theorem ggX3_readSum_X1_opposite : GoodIn wsX3_readSum wsX1_opposite := goodIn_r _ [24, 25, 26, 23, 27, 28, 29, 30, 31, 32, 33, 34, 35, 36, 37, 38, 39, 40, 41, 42, 43, 44, 45, 172, 173] (by decide +kernel) (by decide +kernel)
set_option maxRecDepth 20000 in
theorem gX3_readSum_X1_opposite : GoodIn wsX3_readSum (wsV RX3 70 RX1 yX1_opposite wsX1_opposite) := goodIn_app (goodIn_of _ (by decide +kernel)) ggX3_readSum_X1_opposite
set_option maxRecDepth 20000 in
theorem ggX3_readSum_X1_plus : GoodIn wsX3_readSum wsX1_plus := goodIn_r _ [49, 25, 26, 23, 27, 28, 29, 30, 31, 32, 33, 34, 35, 36, 37, 38, 39, 40, 41, 42, 43, 44, 45, 172, 173] (by decide +kernel) (by decide +kernel)
set_option maxRecDepth 20000 in
theorem gX3_readSum_X1_plus : GoodIn wsX3_readSum (wsV RX3 74 RX1 yX1_plus wsX1_plus) := goodIn_app (goodIn_of _ (by decide +kernel)) ggX3_readSum_X1_plus
set_option maxRecDepth 20000 in
theorem ggX3_readSum_X3_bounded : GoodIn wsX3_readSum wsX3_bounded := goodIn_r _ [53, 54, 55, 12, 56, 57, 58, 59, 23, 60, 27, 61, 40, 41, 42, 28, 62, 63, 64, 16, 65, 18, 66, 67, 158, 159, 160, 161, 162, 163, 164, 165, 172, 173, 166, 167, 168, 169, 170, 171] (by decide +kernel) (by decide +kernel)
set_option maxRecDepth 20000 in
theorem gX3_readSum_X3_bounded : GoodIn wsX3_readSum (wsV RX3 78 RX3 yX3_bounded wsX3_bounded) := goodIn_app (goodIn_of _ (by decide +kernel)) ggX3_readSum_X3_bounded
theorem dX3_readSum_0 : decode cX3_readSum 0 = .ok (.aload_n 0, 1) := by decide +kernel
theorem dX3_readSum_1 : decode cX3_readSum 1 = .ok (.iload_n 1, 1) := by decide +kernel
theorem dX3_readSum_2 : decode cX3_readSum 2 = .ok (.invokevirtual 64, 3) := by decide +kernel
theorem dX3_readSum_5 : decode cX3_readSum 5 = .ok (.astore_n 2, 1) := by decide +kernel
theorem dX3_readSum_6 : decode cX3_readSum 6 = .ok (.iconst 0, 1) := by decide +kernel
theorem dX3_readSum_7 : decode cX3_readSum 7 = .ok (.istore_n 3, 1) := by decide +kernel
theorem dX3_readSum_8 : decode cX3_readSum 8 = .ok (.iload_n 3, 1) := by decide +kernel
theorem dX3_readSum_9 : decode cX3_readSum 9 = .ok (.sipush 300, 3) := by decide +kernel
theorem dX3_readSum_12 : decode cX3_readSum 12 = .ok (.if_icmp .ge 86, 3) := by decide +kernel
theorem dX3_readSum_15 : decode cX3_readSum 15 = .ok (.aload_n 0, 1) := by decide +kernel
theorem dX3_readSum_16 : decode cX3_readSum 16 = .ok (.getfield 37, 3) := by decide +kernel
theorem dX3_readSum_19 : decode cX3_readSum 19 = .ok (.bipush 43, 2) := by decide +kernel
theorem dX3_readSum_21 : decode cX3_readSum 21 = .ok (.if_icmp .eq 12, 3) := by decide +kernel
theorem dX3_readSum_24 : decode cX3_readSum 24 = .ok (.aload_n 0, 1) := by decide +kernel
theorem dX3_readSum_25 : decode cX3_readSum 25 = .ok (.getfield 37, 3) := by decide +kernel
theorem dX3_readSum_28 : decode cX3_readSum 28 = .ok (.bipush 45, 2) := by decide +kernel
theorem dX3_readSum_30 : decode cX3_readSum 30 = .ok (.if_icmp .ne 68, 3) := by decide +kernel
theorem dX3_readSum_33 : decode cX3_readSum 33 = .ok (.aload_n 0, 1) := by decide +kernel
theorem dX3_readSum_34 : decode cX3_readSum 34 = .ok (.getfield 37, 3) := by decide +kernel
theorem dX3_readSum_37 : decode cX3_readSum 37 = .ok (.bipush 45, 2) := by decide +kernel
theorem dX3_readSum_39 : decode cX3_readSum 39 = .ok (.if_icmp .ne 7, 3) := by decide +kernel
theorem dX3_readSum_42 : decode cX3_readSum 42 = .ok (.iconst 1, 1) := by decide +kernel
theorem dX3_readSum_43 : decode cX3_readSum 43 = .ok (.goto 4, 3) := by decide +kernel
theorem dX3_readSum_46 : decode cX3_readSum 46 = .ok (.iconst 0, 1) := by decide +kernel
theorem dX3_readSum_47 : decode cX3_readSum 47 = .ok (.istore 4, 2) := by decide +kernel
theorem dX3_readSum_49 : decode cX3_readSum 49 = .ok (.aload_n 0, 1) := by decide +kernel
theorem dX3_readSum_50 : decode cX3_readSum 50 = .ok (.getfield 33, 3) := by decide +kernel
theorem dX3_readSum_53 : decode cX3_readSum 53 = .ok (.istore 5, 2) := by decide +kernel
theorem dX3_readSum_55 : decode cX3_readSum 55 = .ok (.aload_n 0, 1) := by decide +kernel
theorem dX3_readSum_56 : decode cX3_readSum 56 = .ok (.invokevirtual 67, 3) := by decide +kernel
theorem dX3_readSum_59 : decode cX3_readSum 59 = .ok (.aload_n 0, 1) := by decide +kernel
theorem dX3_readSum_60 : decode cX3_readSum 60 = .ok (.iload_n 1, 1) := by decide +kernel
theorem dX3_readSum_61 : decode cX3_readSum 61 = .ok (.invokevirtual 64, 3) := by decide +kernel
theorem dX3_readSum_64 : decode cX3_readSum 64 = .ok (.astore 6, 2) := by decide +kernel
theorem dX3_readSum_66 : decode cX3_readSum 66 = .ok (.aload_n 0, 1) := by decide +kernel
theorem dX3_readSum_67 : decode cX3_readSum 67 = .ok (.aload_n 2, 1) := by decide +kernel
theorem dX3_readSum_68 : decode cX3_readSum 68 = .ok (.iload 4, 2) := by decide +kernel
theorem dX3_readSum_70 : decode cX3_readSum 70 = .ok (.ifCond .eq 11, 3) := by decide +kernel
theorem dX3_readSum_73 : decode cX3_readSum 73 = .ok (.aload 6, 2) := by decide +kernel
theorem dX3_readSum_75 : decode cX3_readSum 75 = .ok (.invokevirtual 70, 3) := by decide +kernel
theorem dX3_readSum_78 : decode cX3_readSum 78 = .ok (.goto 5, 3) := by decide +kernel
theorem dX3_readSum_81 : decode cX3_readSum 81 = .ok (.aload 6, 2) := by decide +kernel
theorem dX3_readSum_83 : decode cX3_readSum 83 = .ok (.invokevirtual 74, 3) := by decide +kernel
theorem dX3_readSum_86 : decode cX3_readSum 86 = .ok (.iload 5, 2) := by decide +kernel
theorem dX3_readSum_88 : decode cX3_readSum 88 = .ok (.invokevirtual 78, 3) := by decide +kernel
theorem dX3_readSum_91 : decode cX3_readSum 91 = .ok (.astore_n 2, 1) := by decide +kernel
theorem dX3_readSum_92 : decode cX3_readSum 92 = .ok (.iinc 3 1, 3) := by decide +kernel
theorem dX3_readSum_95 : decode cX3_readSum 95 = .ok (.goto (-87), 3) := by decide +kernel
theorem dX3_readSum_98 : decode cX3_readSum 98 = .ok (.aload_n 2, 1) := by decide +kernel
theorem dX3_readSum_99 : decode cX3_readSum 99 = .ok (.areturn, 1) := by decide +kernel
set_option maxRecDepth 20000 in
theorem ggX3_readTerm_X3_readFactor : GoodIn wsX3_readTerm wsX3_readFactor := goodIn_r _ [80, 1, 81, 82, 83, 6, 7, 8, 9, 10, 11, 2, 12, 13, 14, 15, 16, 17, 18, 19, 84, 85, 86, 23, 87, 25, 26, 27, 28, 29, 30, 31, 32, 33, 34, 35, 36, 37, 38, 39, 40, 41, 42, 43, 44, 45, 64, 52, 65, 66, 67, 68, 69, 70, 71, 72, 58, 59, 60, 61, 62, 63, 73, 74, 75, 76, 77, 78, 79, 88, 89, 90, 91, 92, 93, 94, 95, 46, 47, 48, 49, 50, 51, 53, 54, 55, 56, 57, 0, 3, 4, 5, 20, 21, 22, 24, 96, 97, 98, 99, 100, 101, 102, 103, 104, 105, 106, 107, 108, 109, 110, 111, 112, 113, 114, 115, 116, 117, 118, 119, 120, 121, 122, 123, 124, 125, 126, 127, 128, 129, 130, 131, 132, 133, 134, 135, 136, 137, 138, 139, 140, 141, 142, 143, 144, 145, 146, 147, 148, 149, 150, 151, 152, 153, 154, 155, 156, 157, 158, 159, 160, 161, 162, 163, 164, 165, 166, 167, 168, 169, 170, 171, 172, 173, 174, 175, 176, 177] (by decide +kernel) (by decide +kernel)
set_option maxRecDepth 20000 in
theorem gX3_readTerm_X3_readFactor : GoodIn wsX3_readTerm (wsV RX3 82 RX3 yX3_readFactor wsX3_readFactor) := goodIn_app (goodIn_of _ (by decide +kernel)) ggX3_readTerm_X3_readFactor
set_option maxRecDepth 20000 in
theorem ggX3_readTerm_X3_advance : GoodIn wsX3_readTerm wsX3_advance := goodIn_r _ [10, 11, 2, 12, 1, 13, 14, 15, 16, 17, 18, 19, 158, 159, 160, 161, 162, 163, 164, 165, 166, 167, 168, 169, 170, 171] (by decide +kernel) (by decide +kernel)
set_option maxRecDepth 20000 in
theorem gX3_readTerm_X3_advance : GoodIn wsX3_readTerm (wsV RX3 67 RX3 yX3_advance wsX3_advance) := goodIn_app (goodIn_of _ (by decide +kernel)) ggX3_readTerm_X3_advance
set_option maxRecDepth 20000 in
theorem ggX3_readTerm_X1_product : GoodIn wsX3_readTerm wsX1_product := goodIn_r _ [24, 25, 26, 23, 27, 28, 29, 30, 31, 32, 33, 34, 35, 36, 37, 38, 39, 40, 41, 42, 43, 44, 45, 172, 173] (by decide +kernel) (by decide +kernel)
set_option maxRecDepth 20000 in
theorem gX3_readTerm_X1_product : GoodIn wsX3_readTerm (wsV RX3 85 RX1 yX1_product wsX1_product) := goodIn_app (goodIn_of _ (by decide +kernel)) ggX3_readTerm_X1_product
set_option maxRecDepth 20000 in
theorem ggX3_readTerm_X3_bounded : GoodIn wsX3_readTerm wsX3_bounded := goodIn_r _ [49, 50, 51, 12, 52, 53, 54, 55, 23, 56, 27, 57, 40, 41, 42, 28, 58, 59, 60, 16, 61, 18, 62, 63, 158, 159, 160, 161, 162, 163, 164, 165, 172, 173, 166, 167, 168, 169, 170, 171] (by decide +kernel) (by decide +kernel)
set_option maxRecDepth 20000 in
theorem gX3_readTerm_X3_bounded : GoodIn wsX3_readTerm (wsV RX3 78 RX3 yX3_bounded wsX3_bounded) := goodIn_app (goodIn_of _ (by decide +kernel)) ggX3_readTerm_X3_bounded
theorem dX3_readTerm_0 : decode cX3_readTerm 0 = .ok (.aload_n 0, 1) := by decide +kernel
theorem dX3_readTerm_1 : decode cX3_readTerm 1 = .ok (.iload_n 1, 1) := by decide +kernel
theorem dX3_readTerm_2 : decode cX3_readTerm 2 = .ok (.invokevirtual 82, 3) := by decide +kernel
theorem dX3_readTerm_5 : decode cX3_readTerm 5 = .ok (.astore_n 2, 1) := by decide +kernel
theorem dX3_readTerm_6 : decode cX3_readTerm 6 = .ok (.iconst 0, 1) := by decide +kernel
theorem dX3_readTerm_7 : decode cX3_readTerm 7 = .ok (.istore_n 3, 1) := by decide +kernel
theorem dX3_readTerm_8 : decode cX3_readTerm 8 = .ok (.iload_n 3, 1) := by decide +kernel
theorem dX3_readTerm_9 : decode cX3_readTerm 9 = .ok (.sipush 300, 3) := by decide +kernel
theorem dX3_readTerm_12 : decode cX3_readTerm 12 = .ok (.if_icmp .ge 44, 3) := by decide +kernel
theorem dX3_readTerm_15 : decode cX3_readTerm 15 = .ok (.aload_n 0, 1) := by decide +kernel
theorem dX3_readTerm_16 : decode cX3_readTerm 16 = .ok (.getfield 37, 3) := by decide +kernel
theorem dX3_readTerm_19 : decode cX3_readTerm 19 = .ok (.bipush 42, 2) := by decide +kernel
theorem dX3_readTerm_21 : decode cX3_readTerm 21 = .ok (.if_icmp .ne 35, 3) := by decide +kernel
theorem dX3_readTerm_24 : decode cX3_readTerm 24 = .ok (.aload_n 0, 1) := by decide +kernel
theorem dX3_readTerm_25 : decode cX3_readTerm 25 = .ok (.getfield 33, 3) := by decide +kernel
theorem dX3_readTerm_28 : decode cX3_readTerm 28 = .ok (.istore 4, 2) := by decide +kernel
theorem dX3_readTerm_30 : decode cX3_readTerm 30 = .ok (.aload_n 0, 1) := by decide +kernel
theorem dX3_readTerm_31 : decode cX3_readTerm 31 = .ok (.invokevirtual 67, 3) := by decide +kernel
theorem dX3_readTerm_34 : decode cX3_readTerm 34 = .ok (.aload_n 0, 1) := by decide +kernel
theorem dX3_readTerm_35 : decode cX3_readTerm 35 = .ok (.aload_n 2, 1) := by decide +kernel
theorem dX3_readTerm_36 : decode cX3_readTerm 36 = .ok (.aload_n 0, 1) := by decide +kernel
theorem dX3_readTerm_37 : decode cX3_readTerm 37 = .ok (.iload_n 1, 1) := by decide +kernel
theorem dX3_readTerm_38 : decode cX3_readTerm 38 = .ok (.invokevirtual 82, 3) := by decide +kernel
theorem dX3_readTerm_41 : decode cX3_readTerm 41 = .ok (.invokevirtual 85, 3) := by decide +kernel
theorem dX3_readTerm_44 : decode cX3_readTerm 44 = .ok (.iload 4, 2) := by decide +kernel
theorem dX3_readTerm_46 : decode cX3_readTerm 46 = .ok (.invokevirtual 78, 3) := by decide +kernel
theorem dX3_readTerm_49 : decode cX3_readTerm 49 = .ok (.astore_n 2, 1) := by decide +kernel
theorem dX3_readTerm_50 : decode cX3_readTerm 50 = .ok (.iinc 3 1, 3) := by decide +kernel
theorem dX3_readTerm_53 : decode cX3_readTerm 53 = .ok (.goto (-45), 3) := by decide +kernel
theorem dX3_readTerm_56 : decode cX3_readTerm 56 = .ok (.aload_n 2, 1) := by decide +kernel
theorem dX3_readTerm_57 : decode cX3_readTerm 57 = .ok (.areturn, 1) := by decide +kernel
set_option maxRecDepth 20000 in
theorem ggX3_readFactor_X3_readUnit : GoodIn wsX3_readFactor wsX3_readUnit := goodIn_r _ [96, 11, 1, 97, 26, 23, 98, 47, 99, 100, 101, 5, 102, 103, 104, 105, 106, 12, 52, 53, 54, 55, 10, 56, 57, 58, 16, 59, 18, 60, 61, 107, 108, 109, 110, 111, 6, 7, 8, 9, 13, 14, 15, 17, 19, 112, 30, 31, 32, 33, 34, 27, 28, 35, 36, 37, 38, 39, 40, 41, 42, 43, 44, 45, 77, 78, 79, 80, 81, 82, 83, 84, 85, 86, 87, 113, 114, 115, 116, 117, 118, 119, 25, 120, 29, 121, 122, 123, 124, 125, 126, 127, 128, 129, 48, 49, 50, 51, 62, 63, 64, 65, 130, 131, 132, 133, 134, 135, 136, 137, 138, 139, 140, 141, 142, 143, 144, 145, 146, 147, 148, 149, 150, 151, 152, 153, 154, 155, 156, 157, 46, 66, 67, 68, 0, 2, 3, 4, 20, 21, 22, 24, 69, 70, 71, 72, 73, 74, 75, 76, 88, 89, 90, 91, 92, 93, 94, 95, 158, 159, 160, 161, 162, 163, 164, 165, 166, 167, 168, 169, 170, 171, 172, 173, 174, 175, 176, 177] (by decide +kernel) (by decide +kernel)
set_option maxRecDepth 20000 in
theorem gX3_readFactor_X3_readUnit : GoodIn wsX3_readFactor (wsV RX3 88 RX3 yX3_readUnit wsX3_readUnit) := goodIn_app (goodIn_of _ (by decide +kernel)) ggX3_readFactor_X3_readUnit
set_option maxRecDepth 20000 in
theorem ggX3_readFactor_X3_advance : GoodIn wsX3_readFactor wsX3_advance := goodIn_r _ [9, 10, 11, 12, 1, 13, 14, 15, 16, 17, 18, 19, 158, 159, 160, 161, 162, 163, 164, 165, 166, 167, 168, 169, 170, 171] (by decide +kernel) (by decide +kernel)
set_option maxRecDepth 20000 in
theorem gX3_readFactor_X3_advance : GoodIn wsX3_readFactor (wsV RX3 67 RX3 yX3_advance wsX3_advance) := goodIn_app (goodIn_of _ (by decide +kernel)) ggX3_readFactor_X3_advance
set_option maxRecDepth 20000 in
theorem ggX3_readFactor_X1_opposite : GoodIn wsX3_readFactor wsX1_opposite := goodIn_r _ [24, 25, 26, 23, 27, 28, 29, 30, 31, 32, 33, 34, 35, 36, 37, 38, 39, 40, 41, 42, 43, 44, 45, 172, 173] (by decide +kernel) (by decide +kernel)
set_option maxRecDepth 20000 in
theorem gX3_readFactor_X1_opposite : GoodIn wsX3_readFactor (wsV RX3 70 RX1 yX1_opposite wsX1_opposite) := goodIn_app (goodIn_of _ (by decide +kernel)) ggX3_readFactor_X1_opposite
theorem dX3_readFactor_0 : decode cX3_readFactor 0 = .ok (.aload_n 0, 1) := by decide +kernel
theorem dX3_readFactor_1 : decode cX3_readFactor 1 = .ok (.getfield 37, 3) := by decide +kernel
theorem dX3_readFactor_4 : decode cX3_readFactor 4 = .ok (.bipush 45, 2) := by decide +kernel
theorem dX3_readFactor_6 : decode cX3_readFactor 6 = .ok (.if_icmp .eq 9, 3) := by decide +kernel
theorem dX3_readFactor_9 : decode cX3_readFactor 9 = .ok (.aload_n 0, 1) := by decide +kernel
theorem dX3_readFactor_10 : decode cX3_readFactor 10 = .ok (.iload_n 1, 1) := by decide +kernel
theorem dX3_readFactor_11 : decode cX3_readFactor 11 = .ok (.invokevirtual 88, 3) := by decide +kernel
theorem dX3_readFactor_14 : decode cX3_readFactor 14 = .ok (.areturn, 1) := by decide +kernel
theorem dX3_readFactor_15 : decode cX3_readFactor 15 = .ok (.aload_n 0, 1) := by decide +kernel
theorem dX3_readFactor_16 : decode cX3_readFactor 16 = .ok (.invokevirtual 67, 3) := by decide +kernel
theorem dX3_readFactor_19 : decode cX3_readFactor 19 = .ok (.aload_n 0, 1) := by decide +kernel
theorem dX3_readFactor_20 : decode cX3_readFactor 20 = .ok (.iload_n 1, 1) := by decide +kernel
theorem dX3_readFactor_21 : decode cX3_readFactor 21 = .ok (.invokevirtual 88, 3) := by decide +kernel
theorem dX3_readFactor_24 : decode cX3_readFactor 24 = .ok (.invokevirtual 70, 3) := by decide +kernel
theorem dX3_readFactor_27 : decode cX3_readFactor 27 = .ok (.areturn, 1) := by decide +kernel
set_option maxRecDepth 20000 in
theorem ggX3_readUnit_X3_readNumbers : GoodIn wsX3_readUnit wsX3_readNumbers := goodIn_r _ [12, 2, 3, 4, 5, 1, 13, 14, 15, 11, 16, 17, 18, 19, 20, 21, 22, 23, 24, 25, 26, 27, 28, 29, 30, 31, 32, 33, 34, 35, 36, 37, 38, 39, 40, 41, 42, 43, 44, 45, 46, 47, 48, 49, 50, 51, 52, 53, 54, 55, 56, 57, 58, 59, 60, 61, 62, 63, 64, 65, 66, 67, 68, 69, 7, 70, 71, 72, 73, 74, 158, 159, 160, 161, 162, 163, 164, 165, 172, 173, 166, 167, 168, 169, 170, 171] (by decide +kernel) (by decide +kernel)
set_option maxRecDepth 20000 in
theorem gX3_readUnit_X3_readNumbers : GoodIn wsX3_readUnit (wsV RX3 91 RX3 yX3_readNumbers wsX3_readNumbers) := goodIn_app (goodIn_of _ (by decide +kernel)) ggX3_readUnit_X3_readNumbers
set_option maxRecDepth 20000 in
theorem ggX3_readUnit_X3_advance : GoodIn wsX3_readUnit wsX3_advance := goodIn_r _ [39, 22, 1, 17, 2, 40, 41, 42, 26, 43, 28, 44, 158, 159, 160, 161, 162, 163, 164, 165, 166, 167, 168, 169, 170, 171] (by decide +kernel) (by decide +kernel)
set_option maxRecDepth 20000 in
theorem gX3_readUnit_X3_advance : GoodIn wsX3_readUnit (wsV RX3 67 RX3 yX3_advance wsX3_advance) := goodIn_app (goodIn_of _ (by decide +kernel)) ggX3_readUnit_X3_advance
set_option maxRecDepth 20000 in
theorem ggX3_readUnit_X3_readBrackets : GoodIn wsX3_readUnit wsX3_readBrackets := goodIn_r _ [130, 7, 94, 95, 96, 11, 97, 2, 22, 18, 19, 20, 21, 17, 1, 23, 24, 25, 26, 27, 28, 29, 30, 98, 99, 100, 101, 36, 37, 38, 39, 40, 41, 42, 43, 44, 131, 132, 133, 134, 135, 136, 137, 138, 139, 140, 5, 141, 82, 4, 51, 52, 84, 46, 47, 48, 49, 50, 53, 54, 55, 56, 57, 58, 59, 60, 61, 62, 63, 142, 143, 144, 145, 146, 147, 148, 149, 64, 65, 66, 67, 68, 69, 70, 71, 72, 73, 74, 150, 151, 152, 153, 154, 155, 156, 157, 0, 3, 6, 8, 9, 10, 12, 13, 14, 15, 16, 31, 32, 33, 34, 35, 45, 75, 76, 77, 78, 79, 80, 81, 83, 85, 86, 87, 88, 89, 90, 91, 92, 93, 102, 103, 104, 105, 106, 107, 108, 109, 110, 111, 112, 113, 114, 115, 116, 117, 118, 119, 120, 121, 122, 123, 124, 125, 126, 127, 128, 129, 158, 159, 160, 161, 162, 163, 164, 165, 166, 167, 168, 169, 170, 171, 172, 173, 174, 175, 176, 177] (by decide +kernel) (by decide +kernel)
set_option maxRecDepth 20000 in
theorem gX3_readUnit_X3_readBrackets : GoodIn wsX3_readUnit (wsV RX3 94 RX3 yX3_readBrackets wsX3_readBrackets) := goodIn_app (goodIn_of _ (by decide +kernel)) ggX3_readUnit_X3_readBrackets
set_option maxRecDepth 20000 in
theorem ggX3_readUnit_X1_sawOf : GoodIn wsX3_readUnit wsX1_sawOf := goodIn_r _ [81, 52, 82, 4, 5, 83, 51, 84, 46, 47, 48, 49, 50, 53, 54, 55, 56, 57, 58, 59, 60, 61, 62, 63, 85, 86, 87, 88, 172, 173] (by decide +kernel) (by decide +kernel)
set_option maxRecDepth 20000 in
theorem gX3_readUnit_X1_sawOf : GoodIn wsX3_readUnit (wsV RX3 97 RX1 yX1_sawOf wsX1_sawOf) := goodIn_app (goodIn_of _ (by decide +kernel)) ggX3_readUnit_X1_sawOf
set_option maxRecDepth 20000 in
theorem ggX3_readUnit_X3_bounded : GoodIn wsX3_readUnit wsX3_bounded := goodIn_r _ [67, 68, 69, 17, 7, 70, 71, 72, 5, 73, 51, 74, 58, 59, 60, 52, 23, 24, 25, 26, 27, 28, 29, 30, 158, 159, 160, 161, 162, 163, 164, 165, 172, 173, 166, 167, 168, 169, 170, 171] (by decide +kernel) (by decide +kernel)
set_option maxRecDepth 20000 in
theorem gX3_readUnit_X3_bounded : GoodIn wsX3_readUnit (wsV RX3 78 RX3 yX3_bounded wsX3_bounded) := goodIn_app (goodIn_of _ (by decide +kernel)) ggX3_readUnit_X3_bounded
set_option maxRecDepth 20000 in
theorem ggX3_readUnit_X3_readSawSum : GoodIn wsX3_readUnit wsX3_readSawSum := goodIn_r _ [92, 93, 7, 94, 95, 96, 11, 97, 2, 22, 18, 19, 20, 21, 17, 1, 23, 24, 25, 26, 27, 28, 29, 30, 98, 99, 100, 101, 36, 37, 38, 39, 40, 41, 42, 43, 44, 102, 103, 104, 105, 13, 14, 15, 16, 31, 32, 33, 34, 35, 106, 107, 5, 108, 82, 4, 109, 110, 111, 55, 112, 113, 114, 86, 87, 88, 84, 46, 47, 48, 49, 50, 51, 52, 53, 54, 56, 57, 58, 59, 60, 61, 62, 63, 158, 159, 160, 161, 162, 163, 164, 165, 166, 167, 168, 169, 170, 171, 172, 173] (by decide +kernel) (by decide +kernel)
set_option maxRecDepth 20000 in
theorem gX3_readUnit_X3_readSawSum : GoodIn wsX3_readUnit (wsV RX3 100 RX3 yX3_readSawSum wsX3_readSawSum) := goodIn_app (goodIn_of _ (by decide +kernel)) ggX3_readUnit_X3_readSawSum
set_option maxRecDepth 20000 in
theorem ggX3_readUnit_X2_companion : GoodIn wsX3_readUnit wsX2_companion := goodIn_r _ [119, 120, 121, 122, 123, 58, 59, 60, 124, 125, 126, 118, 127, 128, 129, 111, 55, 112, 113, 114, 86, 87, 88, 174, 175, 176, 177] (by decide +kernel) (by decide +kernel)
set_option maxRecDepth 20000 in
theorem gX3_readUnit_X2_companion : GoodIn wsX3_readUnit (wsV RX3 103 RX2 yX2_companion wsX2_companion) := goodIn_app (goodIn_of _ (by decide +kernel)) ggX3_readUnit_X2_companion
set_option maxRecDepth 20000 in
theorem ggX3_readUnit_X1_init : GoodIn wsX3_readUnit wsX1_init := goodIn_r _ [47, 48, 49, 50, 51, 52, 53, 54, 55, 56, 57, 58, 59, 60, 61, 62, 63, 172, 173] (by decide +kernel) (by decide +kernel)
set_option maxRecDepth 20000 in
theorem gX3_readUnit_X1_init : GoodIn wsX3_readUnit (wsX1_init) := ggX3_readUnit_X1_init
set_option maxRecDepth 20000 in
theorem ggX3_readUnit_X3_refuse : GoodIn wsX3_readUnit wsX3_refuse := goodIn_r _ [21, 22, 17, 1, 2, 23, 24, 25, 26, 27, 28, 29, 30, 158, 159, 160, 161, 162, 163, 164, 165, 166, 167, 168, 169, 170, 171] (by decide +kernel) (by decide +kernel)
set_option maxRecDepth 20000 in
theorem gX3_readUnit_X3_refuse : GoodIn wsX3_readUnit (wsV RX3 61 RX3 yX3_refuse wsX3_refuse) := goodIn_app (goodIn_of _ (by decide +kernel)) ggX3_readUnit_X3_refuse
theorem dX3_readUnit_0 : decode cX3_readUnit 0 = .ok (.aload_n 0, 1) := by decide +kernel
theorem dX3_readUnit_1 : decode cX3_readUnit 1 = .ok (.getfield 33, 3) := by decide +kernel
theorem dX3_readUnit_4 : decode cX3_readUnit 4 = .ok (.istore_n 2, 1) := by decide +kernel
theorem dX3_readUnit_5 : decode cX3_readUnit 5 = .ok (.aload_n 0, 1) := by decide +kernel
theorem dX3_readUnit_6 : decode cX3_readUnit 6 = .ok (.getfield 37, 3) := by decide +kernel
theorem dX3_readUnit_9 : decode cX3_readUnit 9 = .ok (.lookupswitch 120 #[(-5, 89), (-4, 74), (-3, 56), (-2, 51), (40, 114)], 51) := by decide +kernel
theorem dX3_readUnit_60 : decode cX3_readUnit 60 = .ok (.aload_n 0, 1) := by decide +kernel
theorem dX3_readUnit_61 : decode cX3_readUnit 61 = .ok (.invokevirtual 91, 3) := by decide +kernel
theorem dX3_readUnit_64 : decode cX3_readUnit 64 = .ok (.areturn, 1) := by decide +kernel
theorem dX3_readUnit_65 : decode cX3_readUnit 65 = .ok (.aload_n 0, 1) := by decide +kernel
theorem dX3_readUnit_66 : decode cX3_readUnit 66 = .ok (.invokevirtual 67, 3) := by decide +kernel
theorem dX3_readUnit_69 : decode cX3_readUnit 69 = .ok (.aload_n 0, 1) := by decide +kernel
theorem dX3_readUnit_70 : decode cX3_readUnit 70 = .ok (.aload_n 0, 1) := by decide +kernel
theorem dX3_readUnit_71 : decode cX3_readUnit 71 = .ok (.iload_n 1, 1) := by decide +kernel
theorem dX3_readUnit_72 : decode cX3_readUnit 72 = .ok (.invokevirtual 94, 3) := by decide +kernel
theorem dX3_readUnit_75 : decode cX3_readUnit 75 = .ok (.invokevirtual 97, 3) := by decide +kernel
theorem dX3_readUnit_78 : decode cX3_readUnit 78 = .ok (.iload_n 2, 1) := by decide +kernel
theorem dX3_readUnit_79 : decode cX3_readUnit 79 = .ok (.invokevirtual 78, 3) := by decide +kernel
theorem dX3_readUnit_82 : decode cX3_readUnit 82 = .ok (.areturn, 1) := by decide +kernel
theorem dX3_readUnit_83 : decode cX3_readUnit 83 = .ok (.aload_n 0, 1) := by decide +kernel
theorem dX3_readUnit_84 : decode cX3_readUnit 84 = .ok (.invokevirtual 67, 3) := by decide +kernel
theorem dX3_readUnit_87 : decode cX3_readUnit 87 = .ok (.aload_n 0, 1) := by decide +kernel
theorem dX3_readUnit_88 : decode cX3_readUnit 88 = .ok (.aload_n 0, 1) := by decide +kernel
theorem dX3_readUnit_89 : decode cX3_readUnit 89 = .ok (.iload_n 1, 1) := by decide +kernel
theorem dX3_readUnit_90 : decode cX3_readUnit 90 = .ok (.invokevirtual 100, 3) := by decide +kernel
theorem dX3_readUnit_93 : decode cX3_readUnit 93 = .ok (.iload_n 2, 1) := by decide +kernel
theorem dX3_readUnit_94 : decode cX3_readUnit 94 = .ok (.invokevirtual 78, 3) := by decide +kernel
theorem dX3_readUnit_97 : decode cX3_readUnit 97 = .ok (.areturn, 1) := by decide +kernel
theorem dX3_readUnit_98 : decode cX3_readUnit 98 = .ok (.aload_n 0, 1) := by decide +kernel
theorem dX3_readUnit_99 : decode cX3_readUnit 99 = .ok (.invokevirtual 67, 3) := by decide +kernel
theorem dX3_readUnit_102 : decode cX3_readUnit 102 = .ok (.aload_n 0, 1) := by decide +kernel
theorem dX3_readUnit_103 : decode cX3_readUnit 103 = .ok (.new 24, 3) := by decide +kernel
theorem dX3_readUnit_106 : decode cX3_readUnit 106 = .ok (.dup, 1) := by decide +kernel
theorem dX3_readUnit_107 : decode cX3_readUnit 107 = .ok (.aload_n 0, 1) := by decide +kernel
theorem dX3_readUnit_108 : decode cX3_readUnit 108 = .ok (.getfield 20, 3) := by decide +kernel
theorem dX3_readUnit_111 : decode cX3_readUnit 111 = .ok (.invokevirtual 103, 3) := by decide +kernel
theorem dX3_readUnit_114 : decode cX3_readUnit 114 = .ok (.lconst 1, 1) := by decide +kernel
theorem dX3_readUnit_115 : decode cX3_readUnit 115 = .ok (.invokespecial 26, 3) := by decide +kernel
theorem dX3_readUnit_118 : decode cX3_readUnit 118 = .ok (.iload_n 2, 1) := by decide +kernel
theorem dX3_readUnit_119 : decode cX3_readUnit 119 = .ok (.invokevirtual 78, 3) := by decide +kernel
theorem dX3_readUnit_122 : decode cX3_readUnit 122 = .ok (.areturn, 1) := by decide +kernel
theorem dX3_readUnit_123 : decode cX3_readUnit 123 = .ok (.aload_n 0, 1) := by decide +kernel
theorem dX3_readUnit_124 : decode cX3_readUnit 124 = .ok (.iload_n 1, 1) := by decide +kernel
theorem dX3_readUnit_125 : decode cX3_readUnit 125 = .ok (.invokevirtual 94, 3) := by decide +kernel
theorem dX3_readUnit_128 : decode cX3_readUnit 128 = .ok (.areturn, 1) := by decide +kernel
theorem dX3_readUnit_129 : decode cX3_readUnit 129 = .ok (.aload_n 0, 1) := by decide +kernel
theorem dX3_readUnit_130 : decode cX3_readUnit 130 = .ok (.iconst 1, 1) := by decide +kernel
theorem dX3_readUnit_131 : decode cX3_readUnit 131 = .ok (.invokevirtual 61, 3) := by decide +kernel
theorem dX3_readUnit_134 : decode cX3_readUnit 134 = .ok (.aload_n 0, 1) := by decide +kernel
theorem dX3_readUnit_135 : decode cX3_readUnit 135 = .ok (.getfield 29, 3) := by decide +kernel
theorem dX3_readUnit_138 : decode cX3_readUnit 138 = .ok (.areturn, 1) := by decide +kernel
set_option maxRecDepth 20000 in
theorem ggX3_readBrackets_X3_goesIn : GoodIn wsX3_readBrackets wsX3_goesIn := goodIn_r _ [6, 7, 8, 9, 10, 11, 5, 12, 13, 14, 15, 16, 17, 18, 19, 20, 21, 22, 23, 24, 25, 26, 27, 28, 29, 30, 31, 32, 33, 34, 35, 158, 159, 160, 161, 162, 163, 164, 165, 166, 167, 168, 169, 170, 171] (by decide +kernel) (by decide +kernel)
set_option maxRecDepth 20000 in
theorem gX3_readBrackets_X3_goesIn : GoodIn wsX3_readBrackets (wsV RX3 109 RX3 yX3_goesIn wsX3_goesIn) := goodIn_app (goodIn_of _ (by decide +kernel)) ggX3_readBrackets_X3_goesIn
set_option maxRecDepth 20000 in
theorem ggX3_readBrackets_X3_readSum : GoodIn wsX3_readBrackets wsX3_readSum := goodIn_r _ [69, 7, 14, 70, 71, 72, 5, 27, 28, 29, 30, 8, 13, 31, 32, 33, 18, 34, 20, 35, 43, 44, 45, 46, 47, 48, 49, 50, 51, 52, 53, 54, 55, 56, 57, 58, 59, 60, 61, 62, 63, 64, 65, 66, 67, 68, 73, 74, 75, 76, 77, 78, 79, 80, 81, 82, 1, 83, 84, 85, 86, 87, 15, 16, 17, 19, 21, 22, 0, 2, 3, 4, 6, 9, 10, 11, 12, 23, 24, 25, 26, 36, 37, 38, 39, 40, 41, 42, 88, 89, 90, 91, 92, 93, 94, 95, 96, 97, 98, 99, 100, 101, 102, 103, 104, 105, 106, 107, 108, 109, 110, 111, 112, 113, 114, 115, 116, 117, 118, 119, 120, 121, 122, 123, 124, 125, 126, 127, 128, 129, 130, 131, 132, 133, 134, 135, 136, 137, 138, 139, 140, 141, 142, 143, 144, 145, 146, 147, 148, 149, 150, 151, 152, 153, 154, 155, 156, 157, 158, 159, 160, 161, 162, 163, 164, 165, 166, 167, 168, 169, 170, 171, 172, 173, 174, 175, 176, 177] (by decide +kernel) (by decide +kernel)
set_option maxRecDepth 20000 in
theorem gX3_readBrackets_X3_readSum : GoodIn wsX3_readBrackets (wsV RX3 57 RX3 yX3_readSum wsX3_readSum) := goodIn_app (goodIn_of _ (by decide +kernel)) ggX3_readBrackets_X3_readSum
set_option maxRecDepth 20000 in
theorem ggX3_readBrackets_X3_pass : GoodIn wsX3_readBrackets wsX3_pass := goodIn_r _ [26, 7, 27, 28, 29, 5, 30, 8, 14, 13, 31, 32, 33, 18, 34, 20, 35, 9, 10, 11, 12, 15, 16, 17, 19, 21, 22, 158, 159, 160, 161, 162, 163, 164, 165, 166, 167, 168, 169, 170, 171] (by decide +kernel) (by decide +kernel)
set_option maxRecDepth 20000 in
theorem gX3_readBrackets_X3_pass : GoodIn wsX3_readBrackets (wsV RX3 113 RX3 yX3_pass wsX3_pass) := goodIn_app (goodIn_of _ (by decide +kernel)) ggX3_readBrackets_X3_pass
theorem dX3_readBrackets_0 : decode cX3_readBrackets 0 = .ok (.aload_n 0, 1) := by decide +kernel
theorem dX3_readBrackets_1 : decode cX3_readBrackets 1 = .ok (.iload_n 1, 1) := by decide +kernel
theorem dX3_readBrackets_2 : decode cX3_readBrackets 2 = .ok (.invokevirtual 109, 3) := by decide +kernel
theorem dX3_readBrackets_5 : decode cX3_readBrackets 5 = .ok (.ifCond .ne 8, 3) := by decide +kernel
theorem dX3_readBrackets_8 : decode cX3_readBrackets 8 = .ok (.aload_n 0, 1) := by decide +kernel
theorem dX3_readBrackets_9 : decode cX3_readBrackets 9 = .ok (.getfield 29, 3) := by decide +kernel
theorem dX3_readBrackets_12 : decode cX3_readBrackets 12 = .ok (.areturn, 1) := by decide +kernel
theorem dX3_readBrackets_13 : decode cX3_readBrackets 13 = .ok (.aload_n 0, 1) := by decide +kernel
theorem dX3_readBrackets_14 : decode cX3_readBrackets 14 = .ok (.iload_n 1, 1) := by decide +kernel
theorem dX3_readBrackets_15 : decode cX3_readBrackets 15 = .ok (.iconst 1, 1) := by decide +kernel
theorem dX3_readBrackets_16 : decode cX3_readBrackets 16 = .ok (.iadd, 1) := by decide +kernel
theorem dX3_readBrackets_17 : decode cX3_readBrackets 17 = .ok (.invokevirtual 57, 3) := by decide +kernel
theorem dX3_readBrackets_20 : decode cX3_readBrackets 20 = .ok (.astore_n 2, 1) := by decide +kernel
theorem dX3_readBrackets_21 : decode cX3_readBrackets 21 = .ok (.aload_n 0, 1) := by decide +kernel
theorem dX3_readBrackets_22 : decode cX3_readBrackets 22 = .ok (.bipush 41, 2) := by decide +kernel
theorem dX3_readBrackets_24 : decode cX3_readBrackets 24 = .ok (.invokevirtual 113, 3) := by decide +kernel
theorem dX3_readBrackets_27 : decode cX3_readBrackets 27 = .ok (.aload_n 2, 1) := by decide +kernel
theorem dX3_readBrackets_28 : decode cX3_readBrackets 28 = .ok (.areturn, 1) := by decide +kernel
set_option maxRecDepth 20000 in
theorem ggX3_readSawSum_X3_goesIn : GoodIn wsX3_readSawSum wsX3_goesIn := goodIn_r _ [7, 8, 9, 10, 11, 12, 6, 13, 14, 15, 16, 17, 18, 19, 20, 21, 22, 23, 24, 25, 26, 27, 28, 29, 30, 31, 32, 33, 34, 35, 36, 84, 85, 86, 87, 88, 89, 90, 91, 92, 93, 94, 95, 96, 97] (by decide +kernel) (by decide +kernel)
set_option maxRecDepth 20000 in
theorem gX3_readSawSum_X3_goesIn : GoodIn wsX3_readSawSum (wsV RX3 109 RX3 yX3_goesIn wsX3_goesIn) := goodIn_app (goodIn_of _ (by decide +kernel)) ggX3_readSawSum_X3_goesIn
set_option maxRecDepth 20000 in
theorem ggX3_readSawSum_X3_readWhole : GoodIn wsX3_readSawSum wsX3_readWhole := goodIn_r _ [40, 8, 28, 29, 30, 6, 31, 9, 15, 14, 32, 33, 34, 19, 35, 21, 36, 41, 42, 43, 44, 10, 11, 12, 13, 16, 17, 18, 20, 22, 23, 45, 46, 47, 48, 49, 84, 85, 86, 87, 88, 89, 90, 91, 92, 93, 94, 95, 96, 97] (by decide +kernel) (by decide +kernel)
set_option maxRecDepth 20000 in
theorem gX3_readSawSum_X3_readWhole : GoodIn wsX3_readSawSum (wsV RX3 116 RX3 yX3_readWhole wsX3_readWhole) := goodIn_app (goodIn_of _ (by decide +kernel)) ggX3_readSawSum_X3_readWhole
set_option maxRecDepth 20000 in
theorem ggX3_readSawSum_X3_pass : GoodIn wsX3_readSawSum wsX3_pass := goodIn_r _ [27, 8, 28, 29, 30, 6, 31, 9, 15, 14, 32, 33, 34, 19, 35, 21, 36, 10, 11, 12, 13, 16, 17, 18, 20, 22, 23, 84, 85, 86, 87, 88, 89, 90, 91, 92, 93, 94, 95, 96, 97] (by decide +kernel) (by decide +kernel)
set_option maxRecDepth 20000 in
theorem gX3_readSawSum_X3_pass : GoodIn wsX3_readSawSum (wsV RX3 113 RX3 yX3_pass wsX3_pass) := goodIn_app (goodIn_of _ (by decide +kernel)) ggX3_readSawSum_X3_pass
set_option maxRecDepth 20000 in
theorem ggX3_readSawSum_X1_ofSawSum : GoodIn wsX3_readSawSum wsX1_ofSawSum := goodIn_r _ [53, 54, 55, 52, 56, 57, 58, 59, 60, 61, 62, 63, 64, 65, 66, 67, 68, 69, 70, 71, 72, 73, 74, 75, 76, 77, 78, 79, 80, 81, 82, 83, 98, 99] (by decide +kernel) (by decide +kernel)
set_option maxRecDepth 20000 in
theorem gX3_readSawSum_X1_ofSawSum : GoodIn wsX3_readSawSum (va_wsS RX3 120 yX1_ofSawSum wsX1_ofSawSum) := goodIn_app (goodIn_of _ (by decide +kernel)) ggX3_readSawSum_X1_ofSawSum
theorem dX3_readSawSum_0 : decode cX3_readSawSum 0 = .ok (.aload_n 0, 1) := by decide +kernel
theorem dX3_readSawSum_1 : decode cX3_readSawSum 1 = .ok (.dup, 1) := by decide +kernel
theorem dX3_readSawSum_2 : decode cX3_readSawSum 2 = .ok (.getfield 46, 3) := by decide +kernel
theorem dX3_readSawSum_5 : decode cX3_readSawSum 5 = .ok (.iconst 1, 1) := by decide +kernel
theorem dX3_readSawSum_6 : decode cX3_readSawSum 6 = .ok (.iadd, 1) := by decide +kernel
theorem dX3_readSawSum_7 : decode cX3_readSawSum 7 = .ok (.putfield 46, 3) := by decide +kernel
theorem dX3_readSawSum_10 : decode cX3_readSawSum 10 = .ok (.aload_n 0, 1) := by decide +kernel
theorem dX3_readSawSum_11 : decode cX3_readSawSum 11 = .ok (.iload_n 1, 1) := by decide +kernel
theorem dX3_readSawSum_12 : decode cX3_readSawSum 12 = .ok (.invokevirtual 109, 3) := by decide +kernel
theorem dX3_readSawSum_15 : decode cX3_readSawSum 15 = .ok (.ifCond .ne 8, 3) := by decide +kernel
theorem dX3_readSawSum_18 : decode cX3_readSawSum 18 = .ok (.aload_n 0, 1) := by decide +kernel
theorem dX3_readSawSum_19 : decode cX3_readSawSum 19 = .ok (.getfield 29, 3) := by decide +kernel
theorem dX3_readSawSum_22 : decode cX3_readSawSum 22 = .ok (.areturn, 1) := by decide +kernel
theorem dX3_readSawSum_23 : decode cX3_readSawSum 23 = .ok (.aload_n 0, 1) := by decide +kernel
theorem dX3_readSawSum_24 : decode cX3_readSawSum 24 = .ok (.iconst 0, 1) := by decide +kernel
theorem dX3_readSawSum_25 : decode cX3_readSawSum 25 = .ok (.invokevirtual 116, 3) := by decide +kernel
theorem dX3_readSawSum_28 : decode cX3_readSawSum 28 = .ok (.lstore_n 2, 1) := by decide +kernel
theorem dX3_readSawSum_29 : decode cX3_readSawSum 29 = .ok (.aload_n 0, 1) := by decide +kernel
theorem dX3_readSawSum_30 : decode cX3_readSawSum 30 = .ok (.bipush 44, 2) := by decide +kernel
theorem dX3_readSawSum_32 : decode cX3_readSawSum 32 = .ok (.invokevirtual 113, 3) := by decide +kernel
theorem dX3_readSawSum_35 : decode cX3_readSawSum 35 = .ok (.aload_n 0, 1) := by decide +kernel
theorem dX3_readSawSum_36 : decode cX3_readSawSum 36 = .ok (.iconst 1, 1) := by decide +kernel
theorem dX3_readSawSum_37 : decode cX3_readSawSum 37 = .ok (.invokevirtual 116, 3) := by decide +kernel
theorem dX3_readSawSum_40 : decode cX3_readSawSum 40 = .ok (.lstore 4, 2) := by decide +kernel
theorem dX3_readSawSum_42 : decode cX3_readSawSum 42 = .ok (.aload_n 0, 1) := by decide +kernel
theorem dX3_readSawSum_43 : decode cX3_readSawSum 43 = .ok (.bipush 41, 2) := by decide +kernel
theorem dX3_readSawSum_45 : decode cX3_readSawSum 45 = .ok (.invokevirtual 113, 3) := by decide +kernel
theorem dX3_readSawSum_48 : decode cX3_readSawSum 48 = .ok (.lload_n 2, 1) := by decide +kernel
theorem dX3_readSawSum_49 : decode cX3_readSawSum 49 = .ok (.lload 4, 2) := by decide +kernel
theorem dX3_readSawSum_51 : decode cX3_readSawSum 51 = .ok (.invokestatic 120, 3) := by decide +kernel
theorem dX3_readSawSum_54 : decode cX3_readSawSum 54 = .ok (.areturn, 1) := by decide +kernel
set_option maxRecDepth 20000 in
theorem ggX3_readNumbers_X3_readNumber : GoodIn wsX3_readNumbers wsX3_readNumber := goodIn_r _ [10, 1, 11, 5, 12, 13, 14, 9, 15, 16, 17, 18, 19, 20, 21, 22, 23, 24, 25, 26, 27, 28, 29, 30, 31, 32, 33, 34, 35, 36, 37, 38, 70, 71, 72, 73, 74, 75, 76, 77, 80, 81, 82, 83, 84, 85] (by decide +kernel) (by decide +kernel)
set_option maxRecDepth 20000 in
theorem gX3_readNumbers_X3_readNumber : GoodIn wsX3_readNumbers (wsV RX3 124 RX3 yX3_readNumber wsX3_readNumber) := goodIn_app (goodIn_of _ (by decide +kernel)) ggX3_readNumbers_X3_readNumber
set_option maxRecDepth 20000 in
theorem ggX3_readNumbers_X1_init : GoodIn wsX3_readNumbers wsX1_init := goodIn_r _ [41, 42, 43, 44, 45, 46, 47, 48, 49, 50, 51, 52, 53, 54, 55, 56, 57, 78, 79] (by decide +kernel) (by decide +kernel)
set_option maxRecDepth 20000 in
theorem gX3_readNumbers_X1_init : GoodIn wsX3_readNumbers (wsX1_init) := ggX3_readNumbers_X1_init
set_option maxRecDepth 20000 in
theorem ggX3_readNumbers_X3_advance : GoodIn wsX3_readNumbers wsX3_advance := goodIn_r _ [33, 16, 5, 11, 1, 34, 35, 36, 20, 37, 22, 38, 70, 71, 72, 73, 74, 75, 76, 77, 80, 81, 82, 83, 84, 85] (by decide +kernel) (by decide +kernel)
set_option maxRecDepth 20000 in
theorem gX3_readNumbers_X3_advance : GoodIn wsX3_readNumbers (wsV RX3 67 RX3 yX3_advance wsX3_advance) := goodIn_app (goodIn_of _ (by decide +kernel)) ggX3_readNumbers_X3_advance
set_option maxRecDepth 20000 in
theorem ggX3_readNumbers_X3_bounded : GoodIn wsX3_readNumbers wsX3_bounded := goodIn_r _ [61, 62, 63, 11, 64, 65, 66, 67, 4, 68, 45, 69, 52, 53, 54, 46, 17, 18, 19, 20, 21, 22, 23, 24, 70, 71, 72, 73, 74, 75, 76, 77, 78, 79, 80, 81, 82, 83, 84, 85] (by decide +kernel) (by decide +kernel)
set_option maxRecDepth 20000 in
theorem gX3_readNumbers_X3_bounded : GoodIn wsX3_readNumbers (wsV RX3 78 RX3 yX3_bounded wsX3_bounded) := goodIn_app (goodIn_of _ (by decide +kernel)) ggX3_readNumbers_X3_bounded
theorem dX3_readNumbers_0 : decode cX3_readNumbers 0 = .ok (.aload_n 0, 1) := by decide +kernel
theorem dX3_readNumbers_1 : decode cX3_readNumbers 1 = .ok (.iconst 0, 1) := by decide +kernel
theorem dX3_readNumbers_2 : decode cX3_readNumbers 2 = .ok (.iconst 0, 1) := by decide +kernel
theorem dX3_readNumbers_3 : decode cX3_readNumbers 3 = .ok (.invokevirtual 124, 3) := by decide +kernel
theorem dX3_readNumbers_6 : decode cX3_readNumbers 6 = .ok (.lstore_n 1, 1) := by decide +kernel
theorem dX3_readNumbers_7 : decode cX3_readNumbers 7 = .ok (.aload_n 0, 1) := by decide +kernel
theorem dX3_readNumbers_8 : decode cX3_readNumbers 8 = .ok (.getfield 37, 3) := by decide +kernel
theorem dX3_readNumbers_11 : decode cX3_readNumbers 11 = .ok (.bipush 47, 2) := by decide +kernel
theorem dX3_readNumbers_13 : decode cX3_readNumbers 13 = .ok (.if_icmp .eq 13, 3) := by decide +kernel
theorem dX3_readNumbers_16 : decode cX3_readNumbers 16 = .ok (.new 24, 3) := by decide +kernel
theorem dX3_readNumbers_19 : decode cX3_readNumbers 19 = .ok (.dup, 1) := by decide +kernel
theorem dX3_readNumbers_20 : decode cX3_readNumbers 20 = .ok (.lload_n 1, 1) := by decide +kernel
theorem dX3_readNumbers_21 : decode cX3_readNumbers 21 = .ok (.lconst 1, 1) := by decide +kernel
theorem dX3_readNumbers_22 : decode cX3_readNumbers 22 = .ok (.invokespecial 26, 3) := by decide +kernel
theorem dX3_readNumbers_25 : decode cX3_readNumbers 25 = .ok (.areturn, 1) := by decide +kernel
theorem dX3_readNumbers_26 : decode cX3_readNumbers 26 = .ok (.aload_n 0, 1) := by decide +kernel
theorem dX3_readNumbers_27 : decode cX3_readNumbers 27 = .ok (.getfield 33, 3) := by decide +kernel
theorem dX3_readNumbers_30 : decode cX3_readNumbers 30 = .ok (.istore_n 3, 1) := by decide +kernel
theorem dX3_readNumbers_31 : decode cX3_readNumbers 31 = .ok (.aload_n 0, 1) := by decide +kernel
theorem dX3_readNumbers_32 : decode cX3_readNumbers 32 = .ok (.invokevirtual 67, 3) := by decide +kernel
theorem dX3_readNumbers_35 : decode cX3_readNumbers 35 = .ok (.aload_n 0, 1) := by decide +kernel
theorem dX3_readNumbers_36 : decode cX3_readNumbers 36 = .ok (.new 24, 3) := by decide +kernel
theorem dX3_readNumbers_39 : decode cX3_readNumbers 39 = .ok (.dup, 1) := by decide +kernel
theorem dX3_readNumbers_40 : decode cX3_readNumbers 40 = .ok (.lload_n 1, 1) := by decide +kernel
theorem dX3_readNumbers_41 : decode cX3_readNumbers 41 = .ok (.aload_n 0, 1) := by decide +kernel
theorem dX3_readNumbers_42 : decode cX3_readNumbers 42 = .ok (.iconst 0, 1) := by decide +kernel
theorem dX3_readNumbers_43 : decode cX3_readNumbers 43 = .ok (.iconst 1, 1) := by decide +kernel
theorem dX3_readNumbers_44 : decode cX3_readNumbers 44 = .ok (.invokevirtual 124, 3) := by decide +kernel
theorem dX3_readNumbers_47 : decode cX3_readNumbers 47 = .ok (.invokespecial 26, 3) := by decide +kernel
theorem dX3_readNumbers_50 : decode cX3_readNumbers 50 = .ok (.iload_n 3, 1) := by decide +kernel
theorem dX3_readNumbers_51 : decode cX3_readNumbers 51 = .ok (.invokevirtual 78, 3) := by decide +kernel
theorem dX3_readNumbers_54 : decode cX3_readNumbers 54 = .ok (.areturn, 1) := by decide +kernel
set_option maxRecDepth 20000 in
theorem ggX3_readWhole_X3_advance : GoodIn wsX3_readWhole wsX3_advance := goodIn_r _ [6, 7, 8, 9, 1, 10, 11, 12, 13, 14, 15, 16, 36, 37, 38, 39, 40, 41, 42, 43, 44, 45, 46, 47, 48, 49] (by decide +kernel) (by decide +kernel)
set_option maxRecDepth 20000 in
theorem gX3_readWhole_X3_advance : GoodIn wsX3_readWhole (wsV RX3 67 RX3 yX3_advance wsX3_advance) := goodIn_app (goodIn_of _ (by decide +kernel)) ggX3_readWhole_X3_advance
set_option maxRecDepth 20000 in
theorem ggX3_readWhole_X3_readNumber : GoodIn wsX3_readWhole wsX3_readNumber := goodIn_r _ [20, 1, 9, 8, 21, 22, 23, 5, 24, 7, 25, 26, 27, 13, 28, 15, 29, 30, 31, 32, 33, 34, 35, 2, 3, 4, 6, 10, 11, 12, 14, 16, 36, 37, 38, 39, 40, 41, 42, 43, 44, 45, 46, 47, 48, 49] (by decide +kernel) (by decide +kernel)
set_option maxRecDepth 20000 in
theorem gX3_readWhole_X3_readNumber : GoodIn wsX3_readWhole (wsV RX3 124 RX3 yX3_readNumber wsX3_readNumber) := goodIn_app (goodIn_of _ (by decide +kernel)) ggX3_readWhole_X3_readNumber
theorem dX3_readWhole_0 : decode cX3_readWhole 0 = .ok (.aload_n 0, 1) := by decide +kernel
theorem dX3_readWhole_1 : decode cX3_readWhole 1 = .ok (.getfield 37, 3) := by decide +kernel
theorem dX3_readWhole_4 : decode cX3_readWhole 4 = .ok (.bipush 45, 2) := by decide +kernel
theorem dX3_readWhole_6 : decode cX3_readWhole 6 = .ok (.if_icmp .ne 7, 3) := by decide +kernel
theorem dX3_readWhole_9 : decode cX3_readWhole 9 = .ok (.iconst 1, 1) := by decide +kernel
theorem dX3_readWhole_10 : decode cX3_readWhole 10 = .ok (.goto 4, 3) := by decide +kernel
theorem dX3_readWhole_13 : decode cX3_readWhole 13 = .ok (.iconst 0, 1) := by decide +kernel
theorem dX3_readWhole_14 : decode cX3_readWhole 14 = .ok (.istore_n 2, 1) := by decide +kernel
theorem dX3_readWhole_15 : decode cX3_readWhole 15 = .ok (.iload_n 2, 1) := by decide +kernel
theorem dX3_readWhole_16 : decode cX3_readWhole 16 = .ok (.ifCond .eq 7, 3) := by decide +kernel
theorem dX3_readWhole_19 : decode cX3_readWhole 19 = .ok (.aload_n 0, 1) := by decide +kernel
theorem dX3_readWhole_20 : decode cX3_readWhole 20 = .ok (.invokevirtual 67, 3) := by decide +kernel
theorem dX3_readWhole_23 : decode cX3_readWhole 23 = .ok (.aload_n 0, 1) := by decide +kernel
theorem dX3_readWhole_24 : decode cX3_readWhole 24 = .ok (.iload_n 2, 1) := by decide +kernel
theorem dX3_readWhole_25 : decode cX3_readWhole 25 = .ok (.iload_n 1, 1) := by decide +kernel
theorem dX3_readWhole_26 : decode cX3_readWhole 26 = .ok (.invokevirtual 124, 3) := by decide +kernel
theorem dX3_readWhole_29 : decode cX3_readWhole 29 = .ok (.lreturn, 1) := by decide +kernel
set_option maxRecDepth 20000 in
theorem ggX3_readNumber_X3_refuse : GoodIn wsX3_readNumber wsX3_refuse := goodIn_r _ [8, 9, 2, 3, 1, 10, 11, 12, 13, 14, 15, 16, 17, 32, 33, 34, 35, 36, 37, 38, 39, 40, 41, 42, 43, 44, 45] (by decide +kernel) (by decide +kernel)
set_option maxRecDepth 20000 in
theorem gX3_readNumber_X3_refuse : GoodIn wsX3_readNumber (wsV RX3 61 RX3 yX3_refuse wsX3_refuse) := goodIn_app (goodIn_of _ (by decide +kernel)) ggX3_readNumber_X3_refuse
set_option maxRecDepth 20000 in
theorem ggX3_readNumber_X4_numberAt : GoodIn wsX3_readNumber wsX4_numberAt := goodIn_r _ [21, 15, 22, 40, 41, 42, 43, 44, 45] (by decide +kernel) (by decide +kernel)
set_option maxRecDepth 20000 in
theorem gX3_readNumber_X4_numberAt : GoodIn wsX3_readNumber (wsV RX3 128 RX4 yX4_numberAt wsX4_numberAt) := goodIn_app (goodIn_of _ (by decide +kernel)) ggX3_readNumber_X4_numberAt
set_option maxRecDepth 20000 in
theorem ggX3_readNumber_X3_advance : GoodIn wsX3_readNumber wsX3_advance := goodIn_r _ [26, 9, 3, 2, 1, 27, 28, 29, 13, 30, 15, 31, 32, 33, 34, 35, 36, 37, 38, 39, 40, 41, 42, 43, 44, 45] (by decide +kernel) (by decide +kernel)
set_option maxRecDepth 20000 in
theorem gX3_readNumber_X3_advance : GoodIn wsX3_readNumber (wsV RX3 67 RX3 yX3_advance wsX3_advance) := goodIn_app (goodIn_of _ (by decide +kernel)) ggX3_readNumber_X3_advance
theorem dX3_readNumber_0 : decode cX3_readNumber 0 = .ok (.aload_n 0, 1) := by decide +kernel
theorem dX3_readNumber_1 : decode cX3_readNumber 1 = .ok (.getfield 37, 3) := by decide +kernel
theorem dX3_readNumber_4 : decode cX3_readNumber 4 = .ok (.bipush (-2), 2) := by decide +kernel
theorem dX3_readNumber_6 : decode cX3_readNumber 6 = .ok (.if_icmp .eq 10, 3) := by decide +kernel
theorem dX3_readNumber_9 : decode cX3_readNumber 9 = .ok (.aload_n 0, 1) := by decide +kernel
theorem dX3_readNumber_10 : decode cX3_readNumber 10 = .ok (.iconst 1, 1) := by decide +kernel
theorem dX3_readNumber_11 : decode cX3_readNumber 11 = .ok (.invokevirtual 61, 3) := by decide +kernel
theorem dX3_readNumber_14 : decode cX3_readNumber 14 = .ok (.lconst 1, 1) := by decide +kernel
theorem dX3_readNumber_15 : decode cX3_readNumber 15 = .ok (.lreturn, 1) := by decide +kernel
theorem dX3_readNumber_16 : decode cX3_readNumber 16 = .ok (.aload_n 0, 1) := by decide +kernel
theorem dX3_readNumber_17 : decode cX3_readNumber 17 = .ok (.getfield 14, 3) := by decide +kernel
theorem dX3_readNumber_20 : decode cX3_readNumber 20 = .ok (.aload_n 0, 1) := by decide +kernel
theorem dX3_readNumber_21 : decode cX3_readNumber 21 = .ok (.getfield 33, 3) := by decide +kernel
theorem dX3_readNumber_24 : decode cX3_readNumber 24 = .ok (.invokevirtual 128, 3) := by decide +kernel
theorem dX3_readNumber_27 : decode cX3_readNumber 27 = .ok (.i2l, 1) := by decide +kernel
theorem dX3_readNumber_28 : decode cX3_readNumber 28 = .ok (.lstore_n 3, 1) := by decide +kernel
theorem dX3_readNumber_29 : decode cX3_readNumber 29 = .ok (.iload_n 2, 1) := by decide +kernel
theorem dX3_readNumber_30 : decode cX3_readNumber 30 = .ok (.ifCond .eq 20, 3) := by decide +kernel
theorem dX3_readNumber_33 : decode cX3_readNumber 33 = .ok (.iload_n 1, 1) := by decide +kernel
theorem dX3_readNumber_34 : decode cX3_readNumber 34 = .ok (.ifCond .ne 9, 3) := by decide +kernel
theorem dX3_readNumber_37 : decode cX3_readNumber 37 = .ok (.lload_n 3, 1) := by decide +kernel
theorem dX3_readNumber_38 : decode cX3_readNumber 38 = .ok (.lconst 1, 1) := by decide +kernel
theorem dX3_readNumber_39 : decode cX3_readNumber 39 = .ok (.lcmp, 1) := by decide +kernel
theorem dX3_readNumber_40 : decode cX3_readNumber 40 = .ok (.ifCond .ge 10, 3) := by decide +kernel
theorem dX3_readNumber_43 : decode cX3_readNumber 43 = .ok (.aload_n 0, 1) := by decide +kernel
theorem dX3_readNumber_44 : decode cX3_readNumber 44 = .ok (.iconst 2, 1) := by decide +kernel
theorem dX3_readNumber_45 : decode cX3_readNumber 45 = .ok (.invokevirtual 61, 3) := by decide +kernel
theorem dX3_readNumber_48 : decode cX3_readNumber 48 = .ok (.lconst 1, 1) := by decide +kernel
theorem dX3_readNumber_49 : decode cX3_readNumber 49 = .ok (.lreturn, 1) := by decide +kernel
theorem dX3_readNumber_50 : decode cX3_readNumber 50 = .ok (.aload_n 0, 1) := by decide +kernel
theorem dX3_readNumber_51 : decode cX3_readNumber 51 = .ok (.invokevirtual 67, 3) := by decide +kernel
theorem dX3_readNumber_54 : decode cX3_readNumber 54 = .ok (.iload_n 1, 1) := by decide +kernel
theorem dX3_readNumber_55 : decode cX3_readNumber 55 = .ok (.ifCond .eq 8, 3) := by decide +kernel
theorem dX3_readNumber_58 : decode cX3_readNumber 58 = .ok (.lload_n 3, 1) := by decide +kernel
theorem dX3_readNumber_59 : decode cX3_readNumber 59 = .ok (.lneg, 1) := by decide +kernel
theorem dX3_readNumber_60 : decode cX3_readNumber 60 = .ok (.goto 4, 3) := by decide +kernel
theorem dX3_readNumber_63 : decode cX3_readNumber 63 = .ok (.lload_n 3, 1) := by decide +kernel
theorem dX3_readNumber_64 : decode cX3_readNumber 64 = .ok (.lreturn, 1) := by decide +kernel
set_option maxRecDepth 20000 in
theorem ggX3_goesIn_X3_refuse : GoodIn wsX3_goesIn wsX3_refuse := goodIn_r _ [7, 2, 8, 9, 1, 10, 11, 12, 13, 14, 15, 16, 17, 31, 32, 33, 34, 35, 36, 37, 38, 39, 40, 41, 42, 43, 44] (by decide +kernel) (by decide +kernel)
set_option maxRecDepth 20000 in
theorem gX3_goesIn_X3_refuse : GoodIn wsX3_goesIn (wsV RX3 61 RX3 yX3_refuse wsX3_refuse) := goodIn_app (goodIn_of _ (by decide +kernel)) ggX3_goesIn_X3_refuse
set_option maxRecDepth 20000 in
theorem ggX3_goesIn_X3_pass : GoodIn wsX3_goesIn wsX3_pass := goodIn_r _ [21, 1, 22, 23, 24, 6, 25, 2, 9, 8, 26, 27, 28, 13, 29, 15, 30, 3, 4, 5, 7, 10, 11, 12, 14, 16, 17, 31, 32, 33, 34, 35, 36, 37, 38, 39, 40, 41, 42, 43, 44] (by decide +kernel) (by decide +kernel)
set_option maxRecDepth 20000 in
theorem gX3_goesIn_X3_pass : GoodIn wsX3_goesIn (wsV RX3 113 RX3 yX3_pass wsX3_pass) := goodIn_app (goodIn_of _ (by decide +kernel)) ggX3_goesIn_X3_pass
theorem dX3_goesIn_0 : decode cX3_goesIn 0 = .ok (.aload_n 0, 1) := by decide +kernel
theorem dX3_goesIn_1 : decode cX3_goesIn 1 = .ok (.getfield 37, 3) := by decide +kernel
theorem dX3_goesIn_4 : decode cX3_goesIn 4 = .ok (.bipush 40, 2) := by decide +kernel
theorem dX3_goesIn_6 : decode cX3_goesIn 6 = .ok (.if_icmp .ne 17, 3) := by decide +kernel
theorem dX3_goesIn_9 : decode cX3_goesIn 9 = .ok (.iload_n 1, 1) := by decide +kernel
theorem dX3_goesIn_10 : decode cX3_goesIn 10 = .ok (.bipush 9, 2) := by decide +kernel
theorem dX3_goesIn_12 : decode cX3_goesIn 12 = .ok (.if_icmp .lt 11, 3) := by decide +kernel
theorem dX3_goesIn_15 : decode cX3_goesIn 15 = .ok (.aload_n 0, 1) := by decide +kernel
theorem dX3_goesIn_16 : decode cX3_goesIn 16 = .ok (.iconst 2, 1) := by decide +kernel
theorem dX3_goesIn_17 : decode cX3_goesIn 17 = .ok (.invokevirtual 61, 3) := by decide +kernel
theorem dX3_goesIn_20 : decode cX3_goesIn 20 = .ok (.goto 9, 3) := by decide +kernel
theorem dX3_goesIn_23 : decode cX3_goesIn 23 = .ok (.aload_n 0, 1) := by decide +kernel
theorem dX3_goesIn_24 : decode cX3_goesIn 24 = .ok (.bipush 40, 2) := by decide +kernel
theorem dX3_goesIn_26 : decode cX3_goesIn 26 = .ok (.invokevirtual 113, 3) := by decide +kernel
theorem dX3_goesIn_29 : decode cX3_goesIn 29 = .ok (.aload_n 0, 1) := by decide +kernel
theorem dX3_goesIn_30 : decode cX3_goesIn 30 = .ok (.getfield 40, 3) := by decide +kernel
theorem dX3_goesIn_33 : decode cX3_goesIn 33 = .ok (.ifCond .ne 7, 3) := by decide +kernel
theorem dX3_goesIn_36 : decode cX3_goesIn 36 = .ok (.iconst 1, 1) := by decide +kernel
theorem dX3_goesIn_37 : decode cX3_goesIn 37 = .ok (.goto 4, 3) := by decide +kernel
theorem dX3_goesIn_40 : decode cX3_goesIn 40 = .ok (.iconst 0, 1) := by decide +kernel
theorem dX3_goesIn_41 : decode cX3_goesIn 41 = .ok (.ireturn, 1) := by decide +kernel
set_option maxRecDepth 20000 in
theorem ggX3_pass_X3_advance : GoodIn wsX3_pass wsX3_advance := goodIn_r _ [6, 7, 8, 9, 1, 10, 11, 12, 13, 14, 15, 16, 27, 28, 29, 30, 31, 32, 33, 34, 35, 36, 37, 38, 39, 40] (by decide +kernel) (by decide +kernel)
set_option maxRecDepth 20000 in
theorem gX3_pass_X3_advance : GoodIn wsX3_pass (wsV RX3 67 RX3 yX3_advance wsX3_advance) := goodIn_app (goodIn_of _ (by decide +kernel)) ggX3_pass_X3_advance
set_option maxRecDepth 20000 in
theorem ggX3_pass_X3_refuse : GoodIn wsX3_pass wsX3_refuse := goodIn_r _ [20, 7, 9, 8, 1, 21, 22, 23, 13, 24, 15, 25, 26, 27, 28, 29, 30, 31, 32, 33, 34, 35, 36, 37, 38, 39, 40] (by decide +kernel) (by decide +kernel)
set_option maxRecDepth 20000 in
theorem gX3_pass_X3_refuse : GoodIn wsX3_pass (wsV RX3 61 RX3 yX3_refuse wsX3_refuse) := goodIn_app (goodIn_of _ (by decide +kernel)) ggX3_pass_X3_refuse
theorem dX3_pass_0 : decode cX3_pass 0 = .ok (.aload_n 0, 1) := by decide +kernel
theorem dX3_pass_1 : decode cX3_pass 1 = .ok (.getfield 37, 3) := by decide +kernel
theorem dX3_pass_4 : decode cX3_pass 4 = .ok (.iload_n 1, 1) := by decide +kernel
theorem dX3_pass_5 : decode cX3_pass 5 = .ok (.if_icmp .ne 10, 3) := by decide +kernel
theorem dX3_pass_8 : decode cX3_pass 8 = .ok (.aload_n 0, 1) := by decide +kernel
theorem dX3_pass_9 : decode cX3_pass 9 = .ok (.invokevirtual 67, 3) := by decide +kernel
theorem dX3_pass_12 : decode cX3_pass 12 = .ok (.goto 8, 3) := by decide +kernel
theorem dX3_pass_15 : decode cX3_pass 15 = .ok (.aload_n 0, 1) := by decide +kernel
theorem dX3_pass_16 : decode cX3_pass 16 = .ok (.iconst 1, 1) := by decide +kernel
theorem dX3_pass_17 : decode cX3_pass 17 = .ok (.invokevirtual 61, 3) := by decide +kernel
theorem dX3_pass_20 : decode cX3_pass 20 = .ok (.return_, 1) := by decide +kernel
set_option maxRecDepth 20000 in
theorem ggX3_advance_X4_kindAt : GoodIn wsX3_advance wsX4_kindAt := goodIn_r _ [9, 10, 11, 20, 21, 22, 23, 24, 25] (by decide +kernel) (by decide +kernel)
set_option maxRecDepth 20000 in
theorem gX3_advance_X4_kindAt : GoodIn wsX3_advance (wsV RX3 53 RX4 yX4_kindAt wsX4_kindAt) := goodIn_app (goodIn_of _ (by decide +kernel)) ggX3_advance_X4_kindAt
theorem dX3_advance_0 : decode cX3_advance 0 = .ok (.aload_n 0, 1) := by decide +kernel
theorem dX3_advance_1 : decode cX3_advance 1 = .ok (.getfield 40, 3) := by decide +kernel
theorem dX3_advance_4 : decode cX3_advance 4 = .ok (.ifCond .ne 28, 3) := by decide +kernel
theorem dX3_advance_7 : decode cX3_advance 7 = .ok (.aload_n 0, 1) := by decide +kernel
theorem dX3_advance_8 : decode cX3_advance 8 = .ok (.dup, 1) := by decide +kernel
theorem dX3_advance_9 : decode cX3_advance 9 = .ok (.getfield 33, 3) := by decide +kernel
theorem dX3_advance_12 : decode cX3_advance 12 = .ok (.iconst 1, 1) := by decide +kernel
theorem dX3_advance_13 : decode cX3_advance 13 = .ok (.iadd, 1) := by decide +kernel
theorem dX3_advance_14 : decode cX3_advance 14 = .ok (.putfield 33, 3) := by decide +kernel
theorem dX3_advance_17 : decode cX3_advance 17 = .ok (.aload_n 0, 1) := by decide +kernel
theorem dX3_advance_18 : decode cX3_advance 18 = .ok (.aload_n 0, 1) := by decide +kernel
theorem dX3_advance_19 : decode cX3_advance 19 = .ok (.getfield 14, 3) := by decide +kernel
theorem dX3_advance_22 : decode cX3_advance 22 = .ok (.aload_n 0, 1) := by decide +kernel
theorem dX3_advance_23 : decode cX3_advance 23 = .ok (.getfield 33, 3) := by decide +kernel
theorem dX3_advance_26 : decode cX3_advance 26 = .ok (.invokevirtual 53, 3) := by decide +kernel
theorem dX3_advance_29 : decode cX3_advance 29 = .ok (.putfield 37, 3) := by decide +kernel
theorem dX3_advance_32 : decode cX3_advance 32 = .ok (.return_, 1) := by decide +kernel
set_option maxRecDepth 20000 in
theorem ggX3_refuse_X4_placeAt : GoodIn wsX3_refuse wsX4_placeAt := goodIn_r _ [9, 10, 11, 12, 21, 22, 23, 24, 25, 26] (by decide +kernel) (by decide +kernel)
set_option maxRecDepth 20000 in
theorem gX3_refuse_X4_placeAt : GoodIn wsX3_refuse (wsV RX3 131 RX4 yX4_placeAt wsX4_placeAt) := goodIn_app (goodIn_of _ (by decide +kernel)) ggX3_refuse_X4_placeAt
theorem dX3_refuse_0 : decode cX3_refuse 0 = .ok (.aload_n 0, 1) := by decide +kernel
theorem dX3_refuse_1 : decode cX3_refuse 1 = .ok (.getfield 40, 3) := by decide +kernel
theorem dX3_refuse_4 : decode cX3_refuse 4 = .ok (.ifCond .ne 29, 3) := by decide +kernel
theorem dX3_refuse_7 : decode cX3_refuse 7 = .ok (.aload_n 0, 1) := by decide +kernel
theorem dX3_refuse_8 : decode cX3_refuse 8 = .ok (.iload_n 1, 1) := by decide +kernel
theorem dX3_refuse_9 : decode cX3_refuse 9 = .ok (.bipush 8, 2) := by decide +kernel
theorem dX3_refuse_11 : decode cX3_refuse 11 = .ok (.aload_n 0, 1) := by decide +kernel
theorem dX3_refuse_12 : decode cX3_refuse 12 = .ok (.getfield 14, 3) := by decide +kernel
theorem dX3_refuse_15 : decode cX3_refuse 15 = .ok (.aload_n 0, 1) := by decide +kernel
theorem dX3_refuse_16 : decode cX3_refuse 16 = .ok (.getfield 33, 3) := by decide +kernel
theorem dX3_refuse_19 : decode cX3_refuse 19 = .ok (.invokevirtual 131, 3) := by decide +kernel
theorem dX3_refuse_22 : decode cX3_refuse 22 = .ok (.imul, 1) := by decide +kernel
theorem dX3_refuse_23 : decode cX3_refuse 23 = .ok (.iadd, 1) := by decide +kernel
theorem dX3_refuse_24 : decode cX3_refuse 24 = .ok (.putfield 40, 3) := by decide +kernel
theorem dX3_refuse_27 : decode cX3_refuse 27 = .ok (.aload_n 0, 1) := by decide +kernel
theorem dX3_refuse_28 : decode cX3_refuse 28 = .ok (.bipush (-6), 2) := by decide +kernel
theorem dX3_refuse_30 : decode cX3_refuse 30 = .ok (.putfield 37, 3) := by decide +kernel
theorem dX3_refuse_33 : decode cX3_refuse 33 = .ok (.return_, 1) := by decide +kernel
set_option maxRecDepth 20000 in
theorem ggX3_bounded_X1_isWithin : GoodIn wsX3_bounded wsX1_isWithin := goodIn_r _ [9, 10, 11, 12, 13, 14, 15, 32, 33] (by decide +kernel) (by decide +kernel)
set_option maxRecDepth 20000 in
theorem gX3_bounded_X1_isWithin : GoodIn wsX3_bounded (wsV RX3 136 RX1 yX1_isWithin wsX1_isWithin) := goodIn_app (goodIn_of _ (by decide +kernel)) ggX3_bounded_X1_isWithin
set_option maxRecDepth 20000 in
theorem ggX3_bounded_X4_placeAt : GoodIn wsX3_bounded wsX4_placeAt := goodIn_r _ [20, 21, 22, 23, 34, 35, 36, 37, 38, 39] (by decide +kernel) (by decide +kernel)
set_option maxRecDepth 20000 in
theorem gX3_bounded_X4_placeAt : GoodIn wsX3_bounded (wsV RX3 131 RX4 yX4_placeAt wsX4_placeAt) := goodIn_app (goodIn_of _ (by decide +kernel)) ggX3_bounded_X4_placeAt
theorem dX3_bounded_0 : decode cX3_bounded 0 = .ok (.aload_n 1, 1) := by decide +kernel
theorem dX3_bounded_1 : decode cX3_bounded 1 = .ok (.ldc2_w 134, 3) := by decide +kernel
theorem dX3_bounded_4 : decode cX3_bounded 4 = .ok (.invokevirtual 136, 3) := by decide +kernel
theorem dX3_bounded_7 : decode cX3_bounded 7 = .ok (.ifCond .eq 5, 3) := by decide +kernel
theorem dX3_bounded_10 : decode cX3_bounded 10 = .ok (.aload_n 1, 1) := by decide +kernel
theorem dX3_bounded_11 : decode cX3_bounded 11 = .ok (.areturn, 1) := by decide +kernel
theorem dX3_bounded_12 : decode cX3_bounded 12 = .ok (.aload_n 0, 1) := by decide +kernel
theorem dX3_bounded_13 : decode cX3_bounded 13 = .ok (.getfield 43, 3) := by decide +kernel
theorem dX3_bounded_16 : decode cX3_bounded 16 = .ok (.ifCond .ne 20, 3) := by decide +kernel
theorem dX3_bounded_19 : decode cX3_bounded 19 = .ok (.aload_n 0, 1) := by decide +kernel
theorem dX3_bounded_20 : decode cX3_bounded 20 = .ok (.iconst 3, 1) := by decide +kernel
theorem dX3_bounded_21 : decode cX3_bounded 21 = .ok (.bipush 8, 2) := by decide +kernel
theorem dX3_bounded_23 : decode cX3_bounded 23 = .ok (.aload_n 0, 1) := by decide +kernel
theorem dX3_bounded_24 : decode cX3_bounded 24 = .ok (.getfield 14, 3) := by decide +kernel
theorem dX3_bounded_27 : decode cX3_bounded 27 = .ok (.iload_n 2, 1) := by decide +kernel
theorem dX3_bounded_28 : decode cX3_bounded 28 = .ok (.invokevirtual 131, 3) := by decide +kernel
theorem dX3_bounded_31 : decode cX3_bounded 31 = .ok (.imul, 1) := by decide +kernel
theorem dX3_bounded_32 : decode cX3_bounded 32 = .ok (.iadd, 1) := by decide +kernel
theorem dX3_bounded_33 : decode cX3_bounded 33 = .ok (.putfield 43, 3) := by decide +kernel
theorem dX3_bounded_36 : decode cX3_bounded 36 = .ok (.aload_n 0, 1) := by decide +kernel
theorem dX3_bounded_37 : decode cX3_bounded 37 = .ok (.getfield 29, 3) := by decide +kernel
theorem dX3_bounded_40 : decode cX3_bounded 40 = .ok (.areturn, 1) := by decide +kernel
theorem dX4_init_0 : decode cX4_init 0 = .ok (.aload_n 0, 1) := by decide +kernel
theorem dX4_init_1 : decode cX4_init 1 = .ok (.invokespecial 3, 3) := by decide +kernel
theorem dX4_init_4 : decode cX4_init 4 = .ok (.aload_n 0, 1) := by decide +kernel
theorem dX4_init_5 : decode cX4_init 5 = .ok (.aload_n 1, 1) := by decide +kernel
theorem dX4_init_6 : decode cX4_init 6 = .ok (.putfield 9, 3) := by decide +kernel
theorem dX4_init_9 : decode cX4_init 9 = .ok (.aload_n 0, 1) := by decide +kernel
theorem dX4_init_10 : decode cX4_init 10 = .ok (.sipush 301, 3) := by decide +kernel
theorem dX4_init_13 : decode cX4_init 13 = .ok (.newarray .int, 2) := by decide +kernel
theorem dX4_init_15 : decode cX4_init 15 = .ok (.putfield 15, 3) := by decide +kernel
theorem dX4_init_18 : decode cX4_init 18 = .ok (.aload_n 0, 1) := by decide +kernel
theorem dX4_init_19 : decode cX4_init 19 = .ok (.sipush 301, 3) := by decide +kernel
theorem dX4_init_22 : decode cX4_init 22 = .ok (.newarray .int, 2) := by decide +kernel
theorem dX4_init_24 : decode cX4_init 24 = .ok (.putfield 19, 3) := by decide +kernel
theorem dX4_init_27 : decode cX4_init 27 = .ok (.aload_n 0, 1) := by decide +kernel
theorem dX4_init_28 : decode cX4_init 28 = .ok (.sipush 301, 3) := by decide +kernel
theorem dX4_init_31 : decode cX4_init 31 = .ok (.newarray .int, 2) := by decide +kernel
theorem dX4_init_33 : decode cX4_init 33 = .ok (.putfield 22, 3) := by decide +kernel
theorem dX4_init_36 : decode cX4_init 36 = .ok (.aload_n 0, 1) := by decide +kernel
theorem dX4_init_37 : decode cX4_init 37 = .ok (.iconst 0, 1) := by decide +kernel
theorem dX4_init_38 : decode cX4_init 38 = .ok (.putfield 25, 3) := by decide +kernel
theorem dX4_init_41 : decode cX4_init 41 = .ok (.aload_n 0, 1) := by decide +kernel
theorem dX4_init_42 : decode cX4_init 42 = .ok (.iconst 0, 1) := by decide +kernel
theorem dX4_init_43 : decode cX4_init 43 = .ok (.putfield 29, 3) := by decide +kernel
theorem dX4_init_46 : decode cX4_init 46 = .ok (.return_, 1) := by decide +kernel
set_option maxRecDepth 20000 in
theorem ggX4_cut_X4_pastRun : GoodIn wsX4_cut wsX4_pastRun := goodIn_r _ [12, 13, 14, 15, 11, 16, 17, 18, 19, 20, 6, 1, 93, 94, 95, 96, 97, 98] (by decide +kernel) (by decide +kernel)
set_option maxRecDepth 20000 in
theorem gX4_cut_X4_pastRun : GoodIn wsX4_cut (wsV RX4 38 RX4 yX4_pastRun wsX4_pastRun) := goodIn_app (goodIn_of _ (by decide +kernel)) ggX4_cut_X4_pastRun
set_option maxRecDepth 20000 in
theorem ggX4_cut_X4_sortAt : GoodIn wsX4_cut wsX4_sortAt := goodIn_r _ [16, 17, 18, 19, 11, 20, 6, 1, 93, 94, 95, 96, 97, 98] (by decide +kernel) (by decide +kernel)
set_option maxRecDepth 20000 in
theorem gX4_cut_X4_sortAt : GoodIn wsX4_cut (wsV RX4 41 RX4 yX4_sortAt wsX4_sortAt) := goodIn_app (goodIn_of _ (by decide +kernel)) ggX4_cut_X4_sortAt
set_option maxRecDepth 20000 in
theorem ggX4_cut_X4_kindOf : GoodIn wsX4_cut wsX4_kindOf := goodIn_r _ [24, 25, 26, 27, 11, 28, 29, 30, 31, 32, 33, 34, 35, 36, 37, 38, 39, 40, 41, 42, 43, 44, 17, 18, 19, 20, 6, 1, 45, 46, 47, 48, 49, 50, 51, 52, 53, 54, 55, 56, 57, 58, 59, 60, 61, 62, 63, 64, 65, 66, 67, 68, 69, 70, 71, 72, 73, 74, 75, 76, 77, 78, 79, 80, 81, 93, 94, 95, 96, 97, 98] (by decide +kernel) (by decide +kernel)
set_option maxRecDepth 20000 in
theorem gX4_cut_X4_kindOf : GoodIn wsX4_cut (wsV RX4 45 RX4 yX4_kindOf wsX4_kindOf) := goodIn_app (goodIn_of _ (by decide +kernel)) ggX4_cut_X4_kindOf
set_option maxRecDepth 20000 in
theorem ggX4_cut_X4_put : GoodIn wsX4_cut wsX4_put := goodIn_r _ [85, 7, 86, 87, 88, 89, 90, 91, 11, 92, 13, 14, 15, 16, 17, 18, 19, 20, 6, 1, 93, 94, 95, 96, 97, 98] (by decide +kernel) (by decide +kernel)
set_option maxRecDepth 20000 in
theorem gX4_cut_X4_put : GoodIn wsX4_cut (wsV RX4 49 RX4 yX4_put wsX4_put) := goodIn_app (goodIn_of _ (by decide +kernel)) ggX4_cut_X4_put
theorem dX4_cut_0 : decode cX4_cut 0 = .ok (.aload_n 0, 1) := by decide +kernel
theorem dX4_cut_1 : decode cX4_cut 1 = .ok (.iload_n 1, 1) := by decide +kernel
theorem dX4_cut_2 : decode cX4_cut 2 = .ok (.aload_n 0, 1) := by decide +kernel
theorem dX4_cut_3 : decode cX4_cut 3 = .ok (.getfield 9, 3) := by decide +kernel
theorem dX4_cut_6 : decode cX4_cut 6 = .ok (.arraylength, 1) := by decide +kernel
theorem dX4_cut_7 : decode cX4_cut 7 = .ok (.invokestatic 32, 3) := by decide +kernel
theorem dX4_cut_10 : decode cX4_cut 10 = .ok (.putfield 25, 3) := by decide +kernel
theorem dX4_cut_13 : decode cX4_cut 13 = .ok (.aload_n 0, 1) := by decide +kernel
theorem dX4_cut_14 : decode cX4_cut 14 = .ok (.iconst 0, 1) := by decide +kernel
theorem dX4_cut_15 : decode cX4_cut 15 = .ok (.putfield 29, 3) := by decide +kernel
theorem dX4_cut_18 : decode cX4_cut 18 = .ok (.aload_n 0, 1) := by decide +kernel
theorem dX4_cut_19 : decode cX4_cut 19 = .ok (.iconst 0, 1) := by decide +kernel
theorem dX4_cut_20 : decode cX4_cut 20 = .ok (.iconst 1, 1) := by decide +kernel
theorem dX4_cut_21 : decode cX4_cut 21 = .ok (.invokevirtual 38, 3) := by decide +kernel
theorem dX4_cut_24 : decode cX4_cut 24 = .ok (.istore_n 2, 1) := by decide +kernel
theorem dX4_cut_25 : decode cX4_cut 25 = .ok (.iconst 0, 1) := by decide +kernel
theorem dX4_cut_26 : decode cX4_cut 26 = .ok (.istore_n 3, 1) := by decide +kernel
theorem dX4_cut_27 : decode cX4_cut 27 = .ok (.iload_n 3, 1) := by decide +kernel
theorem dX4_cut_28 : decode cX4_cut 28 = .ok (.sipush 300, 3) := by decide +kernel
theorem dX4_cut_31 : decode cX4_cut 31 = .ok (.if_icmp .ge 66, 3) := by decide +kernel
theorem dX4_cut_34 : decode cX4_cut 34 = .ok (.iload_n 2, 1) := by decide +kernel
theorem dX4_cut_35 : decode cX4_cut 35 = .ok (.aload_n 0, 1) := by decide +kernel
theorem dX4_cut_36 : decode cX4_cut 36 = .ok (.getfield 25, 3) := by decide +kernel
theorem dX4_cut_39 : decode cX4_cut 39 = .ok (.if_icmp .ge 58, 3) := by decide +kernel
theorem dX4_cut_42 : decode cX4_cut 42 = .ok (.aload_n 0, 1) := by decide +kernel
theorem dX4_cut_43 : decode cX4_cut 43 = .ok (.iload_n 2, 1) := by decide +kernel
theorem dX4_cut_44 : decode cX4_cut 44 = .ok (.invokevirtual 41, 3) := by decide +kernel
theorem dX4_cut_47 : decode cX4_cut 47 = .ok (.istore 4, 2) := by decide +kernel
theorem dX4_cut_49 : decode cX4_cut 49 = .ok (.iload 4, 2) := by decide +kernel
theorem dX4_cut_51 : decode cX4_cut 51 = .ok (.ifCond .ne 9, 3) := by decide +kernel
theorem dX4_cut_54 : decode cX4_cut 54 = .ok (.iload_n 2, 1) := by decide +kernel
theorem dX4_cut_55 : decode cX4_cut 55 = .ok (.iconst 1, 1) := by decide +kernel
theorem dX4_cut_56 : decode cX4_cut 56 = .ok (.iadd, 1) := by decide +kernel
theorem dX4_cut_57 : decode cX4_cut 57 = .ok (.goto 10, 3) := by decide +kernel
theorem dX4_cut_60 : decode cX4_cut 60 = .ok (.aload_n 0, 1) := by decide +kernel
theorem dX4_cut_61 : decode cX4_cut 61 = .ok (.iload_n 2, 1) := by decide +kernel
theorem dX4_cut_62 : decode cX4_cut 62 = .ok (.iload 4, 2) := by decide +kernel
theorem dX4_cut_64 : decode cX4_cut 64 = .ok (.invokevirtual 38, 3) := by decide +kernel
theorem dX4_cut_67 : decode cX4_cut 67 = .ok (.istore 5, 2) := by decide +kernel
theorem dX4_cut_69 : decode cX4_cut 69 = .ok (.aload_n 0, 1) := by decide +kernel
theorem dX4_cut_70 : decode cX4_cut 70 = .ok (.aload_n 0, 1) := by decide +kernel
theorem dX4_cut_71 : decode cX4_cut 71 = .ok (.iload 4, 2) := by decide +kernel
theorem dX4_cut_73 : decode cX4_cut 73 = .ok (.iload_n 2, 1) := by decide +kernel
theorem dX4_cut_74 : decode cX4_cut 74 = .ok (.iload 5, 2) := by decide +kernel
theorem dX4_cut_76 : decode cX4_cut 76 = .ok (.invokevirtual 45, 3) := by decide +kernel
theorem dX4_cut_79 : decode cX4_cut 79 = .ok (.iload_n 2, 1) := by decide +kernel
theorem dX4_cut_80 : decode cX4_cut 80 = .ok (.invokevirtual 49, 3) := by decide +kernel
theorem dX4_cut_83 : decode cX4_cut 83 = .ok (.aload_n 0, 1) := by decide +kernel
theorem dX4_cut_84 : decode cX4_cut 84 = .ok (.iload 5, 2) := by decide +kernel
theorem dX4_cut_86 : decode cX4_cut 86 = .ok (.iconst 1, 1) := by decide +kernel
theorem dX4_cut_87 : decode cX4_cut 87 = .ok (.invokevirtual 38, 3) := by decide +kernel
theorem dX4_cut_90 : decode cX4_cut 90 = .ok (.istore_n 2, 1) := by decide +kernel
theorem dX4_cut_91 : decode cX4_cut 91 = .ok (.iinc 3 1, 3) := by decide +kernel
theorem dX4_cut_94 : decode cX4_cut 94 = .ok (.goto (-67), 3) := by decide +kernel
theorem dX4_cut_97 : decode cX4_cut 97 = .ok (.aload_n 0, 1) := by decide +kernel
theorem dX4_cut_98 : decode cX4_cut 98 = .ok (.iconst (-1), 1) := by decide +kernel
theorem dX4_cut_99 : decode cX4_cut 99 = .ok (.aload_n 0, 1) := by decide +kernel
theorem dX4_cut_100 : decode cX4_cut 100 = .ok (.getfield 25, 3) := by decide +kernel
theorem dX4_cut_103 : decode cX4_cut 103 = .ok (.invokevirtual 49, 3) := by decide +kernel
theorem dX4_cut_106 : decode cX4_cut 106 = .ok (.return_, 1) := by decide +kernel
theorem dX4_kindAt_0 : decode cX4_kindAt 0 = .ok (.iload_n 1, 1) := by decide +kernel
theorem dX4_kindAt_1 : decode cX4_kindAt 1 = .ok (.ifCond .lt 29, 3) := by decide +kernel
theorem dX4_kindAt_4 : decode cX4_kindAt 4 = .ok (.iload_n 1, 1) := by decide +kernel
theorem dX4_kindAt_5 : decode cX4_kindAt 5 = .ok (.aload_n 0, 1) := by decide +kernel
theorem dX4_kindAt_6 : decode cX4_kindAt 6 = .ok (.getfield 29, 3) := by decide +kernel
theorem dX4_kindAt_9 : decode cX4_kindAt 9 = .ok (.if_icmp .ge 21, 3) := by decide +kernel
theorem dX4_kindAt_12 : decode cX4_kindAt 12 = .ok (.iload_n 1, 1) := by decide +kernel
theorem dX4_kindAt_13 : decode cX4_kindAt 13 = .ok (.aload_n 0, 1) := by decide +kernel
theorem dX4_kindAt_14 : decode cX4_kindAt 14 = .ok (.getfield 15, 3) := by decide +kernel
theorem dX4_kindAt_17 : decode cX4_kindAt 17 = .ok (.arraylength, 1) := by decide +kernel
theorem dX4_kindAt_18 : decode cX4_kindAt 18 = .ok (.if_icmp .ge 12, 3) := by decide +kernel
theorem dX4_kindAt_21 : decode cX4_kindAt 21 = .ok (.aload_n 0, 1) := by decide +kernel
theorem dX4_kindAt_22 : decode cX4_kindAt 22 = .ok (.getfield 15, 3) := by decide +kernel
theorem dX4_kindAt_25 : decode cX4_kindAt 25 = .ok (.iload_n 1, 1) := by decide +kernel
theorem dX4_kindAt_26 : decode cX4_kindAt 26 = .ok (.iaload, 1) := by decide +kernel
theorem dX4_kindAt_27 : decode cX4_kindAt 27 = .ok (.goto 4, 3) := by decide +kernel
theorem dX4_kindAt_30 : decode cX4_kindAt 30 = .ok (.iconst (-1), 1) := by decide +kernel
theorem dX4_kindAt_31 : decode cX4_kindAt 31 = .ok (.ireturn, 1) := by decide +kernel
theorem dX4_placeAt_0 : decode cX4_placeAt 0 = .ok (.iload_n 1, 1) := by decide +kernel
theorem dX4_placeAt_1 : decode cX4_placeAt 1 = .ok (.ifCond .lt 29, 3) := by decide +kernel
theorem dX4_placeAt_4 : decode cX4_placeAt 4 = .ok (.iload_n 1, 1) := by decide +kernel
theorem dX4_placeAt_5 : decode cX4_placeAt 5 = .ok (.aload_n 0, 1) := by decide +kernel
theorem dX4_placeAt_6 : decode cX4_placeAt 6 = .ok (.getfield 29, 3) := by decide +kernel
theorem dX4_placeAt_9 : decode cX4_placeAt 9 = .ok (.if_icmp .ge 21, 3) := by decide +kernel
theorem dX4_placeAt_12 : decode cX4_placeAt 12 = .ok (.iload_n 1, 1) := by decide +kernel
theorem dX4_placeAt_13 : decode cX4_placeAt 13 = .ok (.aload_n 0, 1) := by decide +kernel
theorem dX4_placeAt_14 : decode cX4_placeAt 14 = .ok (.getfield 19, 3) := by decide +kernel
theorem dX4_placeAt_17 : decode cX4_placeAt 17 = .ok (.arraylength, 1) := by decide +kernel
theorem dX4_placeAt_18 : decode cX4_placeAt 18 = .ok (.if_icmp .ge 12, 3) := by decide +kernel
theorem dX4_placeAt_21 : decode cX4_placeAt 21 = .ok (.aload_n 0, 1) := by decide +kernel
theorem dX4_placeAt_22 : decode cX4_placeAt 22 = .ok (.getfield 19, 3) := by decide +kernel
theorem dX4_placeAt_25 : decode cX4_placeAt 25 = .ok (.iload_n 1, 1) := by decide +kernel
theorem dX4_placeAt_26 : decode cX4_placeAt 26 = .ok (.iaload, 1) := by decide +kernel
theorem dX4_placeAt_27 : decode cX4_placeAt 27 = .ok (.goto 7, 3) := by decide +kernel
theorem dX4_placeAt_30 : decode cX4_placeAt 30 = .ok (.aload_n 0, 1) := by decide +kernel
theorem dX4_placeAt_31 : decode cX4_placeAt 31 = .ok (.getfield 25, 3) := by decide +kernel
theorem dX4_placeAt_34 : decode cX4_placeAt 34 = .ok (.ireturn, 1) := by decide +kernel
theorem dX4_numberAt_0 : decode cX4_numberAt 0 = .ok (.iload_n 1, 1) := by decide +kernel
theorem dX4_numberAt_1 : decode cX4_numberAt 1 = .ok (.ifCond .lt 29, 3) := by decide +kernel
theorem dX4_numberAt_4 : decode cX4_numberAt 4 = .ok (.iload_n 1, 1) := by decide +kernel
theorem dX4_numberAt_5 : decode cX4_numberAt 5 = .ok (.aload_n 0, 1) := by decide +kernel
theorem dX4_numberAt_6 : decode cX4_numberAt 6 = .ok (.getfield 29, 3) := by decide +kernel
theorem dX4_numberAt_9 : decode cX4_numberAt 9 = .ok (.if_icmp .ge 21, 3) := by decide +kernel
theorem dX4_numberAt_12 : decode cX4_numberAt 12 = .ok (.iload_n 1, 1) := by decide +kernel
theorem dX4_numberAt_13 : decode cX4_numberAt 13 = .ok (.aload_n 0, 1) := by decide +kernel
theorem dX4_numberAt_14 : decode cX4_numberAt 14 = .ok (.getfield 22, 3) := by decide +kernel
theorem dX4_numberAt_17 : decode cX4_numberAt 17 = .ok (.arraylength, 1) := by decide +kernel
theorem dX4_numberAt_18 : decode cX4_numberAt 18 = .ok (.if_icmp .ge 12, 3) := by decide +kernel
theorem dX4_numberAt_21 : decode cX4_numberAt 21 = .ok (.aload_n 0, 1) := by decide +kernel
theorem dX4_numberAt_22 : decode cX4_numberAt 22 = .ok (.getfield 22, 3) := by decide +kernel
theorem dX4_numberAt_25 : decode cX4_numberAt 25 = .ok (.iload_n 1, 1) := by decide +kernel
theorem dX4_numberAt_26 : decode cX4_numberAt 26 = .ok (.iaload, 1) := by decide +kernel
theorem dX4_numberAt_27 : decode cX4_numberAt 27 = .ok (.goto 4, 3) := by decide +kernel
theorem dX4_numberAt_30 : decode cX4_numberAt 30 = .ok (.iconst 0, 1) := by decide +kernel
theorem dX4_numberAt_31 : decode cX4_numberAt 31 = .ok (.ireturn, 1) := by decide +kernel
set_option maxRecDepth 20000 in
theorem ggX4_put_X4_readDigits : GoodIn wsX4_put wsX4_readDigits := goodIn_r _ [9, 10, 11, 12, 8, 13, 14, 15, 16, 17, 18, 19, 20, 21, 22, 23, 24, 25] (by decide +kernel) (by decide +kernel)
set_option maxRecDepth 20000 in
theorem gX4_put_X4_readDigits : GoodIn wsX4_put (wsV RX4 53 RX4 yX4_readDigits wsX4_readDigits) := goodIn_app (goodIn_of _ (by decide +kernel)) ggX4_put_X4_readDigits
theorem dX4_put_0 : decode cX4_put 0 = .ok (.aload_n 0, 1) := by decide +kernel
theorem dX4_put_1 : decode cX4_put 1 = .ok (.getfield 29, 3) := by decide +kernel
theorem dX4_put_4 : decode cX4_put 4 = .ok (.ifCond .lt 93, 3) := by decide +kernel
theorem dX4_put_7 : decode cX4_put 7 = .ok (.aload_n 0, 1) := by decide +kernel
theorem dX4_put_8 : decode cX4_put 8 = .ok (.getfield 29, 3) := by decide +kernel
theorem dX4_put_11 : decode cX4_put 11 = .ok (.aload_n 0, 1) := by decide +kernel
theorem dX4_put_12 : decode cX4_put 12 = .ok (.getfield 15, 3) := by decide +kernel
theorem dX4_put_15 : decode cX4_put 15 = .ok (.arraylength, 1) := by decide +kernel
theorem dX4_put_16 : decode cX4_put 16 = .ok (.if_icmp .ge 81, 3) := by decide +kernel
theorem dX4_put_19 : decode cX4_put 19 = .ok (.aload_n 0, 1) := by decide +kernel
theorem dX4_put_20 : decode cX4_put 20 = .ok (.getfield 29, 3) := by decide +kernel
theorem dX4_put_23 : decode cX4_put 23 = .ok (.aload_n 0, 1) := by decide +kernel
theorem dX4_put_24 : decode cX4_put 24 = .ok (.getfield 19, 3) := by decide +kernel
theorem dX4_put_27 : decode cX4_put 27 = .ok (.arraylength, 1) := by decide +kernel
theorem dX4_put_28 : decode cX4_put 28 = .ok (.if_icmp .ge 69, 3) := by decide +kernel
theorem dX4_put_31 : decode cX4_put 31 = .ok (.aload_n 0, 1) := by decide +kernel
theorem dX4_put_32 : decode cX4_put 32 = .ok (.getfield 29, 3) := by decide +kernel
theorem dX4_put_35 : decode cX4_put 35 = .ok (.aload_n 0, 1) := by decide +kernel
theorem dX4_put_36 : decode cX4_put 36 = .ok (.getfield 22, 3) := by decide +kernel
theorem dX4_put_39 : decode cX4_put 39 = .ok (.arraylength, 1) := by decide +kernel
theorem dX4_put_40 : decode cX4_put 40 = .ok (.if_icmp .ge 57, 3) := by decide +kernel
theorem dX4_put_43 : decode cX4_put 43 = .ok (.aload_n 0, 1) := by decide +kernel
theorem dX4_put_44 : decode cX4_put 44 = .ok (.getfield 15, 3) := by decide +kernel
theorem dX4_put_47 : decode cX4_put 47 = .ok (.aload_n 0, 1) := by decide +kernel
theorem dX4_put_48 : decode cX4_put 48 = .ok (.getfield 29, 3) := by decide +kernel
theorem dX4_put_51 : decode cX4_put 51 = .ok (.iload_n 1, 1) := by decide +kernel
theorem dX4_put_52 : decode cX4_put 52 = .ok (.iastore, 1) := by decide +kernel
theorem dX4_put_53 : decode cX4_put 53 = .ok (.aload_n 0, 1) := by decide +kernel
theorem dX4_put_54 : decode cX4_put 54 = .ok (.getfield 19, 3) := by decide +kernel
theorem dX4_put_57 : decode cX4_put 57 = .ok (.aload_n 0, 1) := by decide +kernel
theorem dX4_put_58 : decode cX4_put 58 = .ok (.getfield 29, 3) := by decide +kernel
theorem dX4_put_61 : decode cX4_put 61 = .ok (.iload_n 2, 1) := by decide +kernel
theorem dX4_put_62 : decode cX4_put 62 = .ok (.iastore, 1) := by decide +kernel
theorem dX4_put_63 : decode cX4_put 63 = .ok (.aload_n 0, 1) := by decide +kernel
theorem dX4_put_64 : decode cX4_put 64 = .ok (.getfield 22, 3) := by decide +kernel
theorem dX4_put_67 : decode cX4_put 67 = .ok (.aload_n 0, 1) := by decide +kernel
theorem dX4_put_68 : decode cX4_put 68 = .ok (.getfield 29, 3) := by decide +kernel
theorem dX4_put_71 : decode cX4_put 71 = .ok (.iload_n 1, 1) := by decide +kernel
theorem dX4_put_72 : decode cX4_put 72 = .ok (.bipush (-2), 2) := by decide +kernel
theorem dX4_put_74 : decode cX4_put 74 = .ok (.if_icmp .ne 11, 3) := by decide +kernel
theorem dX4_put_77 : decode cX4_put 77 = .ok (.aload_n 0, 1) := by decide +kernel
theorem dX4_put_78 : decode cX4_put 78 = .ok (.iload_n 2, 1) := by decide +kernel
theorem dX4_put_79 : decode cX4_put 79 = .ok (.invokevirtual 53, 3) := by decide +kernel
theorem dX4_put_82 : decode cX4_put 82 = .ok (.goto 4, 3) := by decide +kernel
theorem dX4_put_85 : decode cX4_put 85 = .ok (.iconst 0, 1) := by decide +kernel
theorem dX4_put_86 : decode cX4_put 86 = .ok (.iastore, 1) := by decide +kernel
theorem dX4_put_87 : decode cX4_put 87 = .ok (.aload_n 0, 1) := by decide +kernel
theorem dX4_put_88 : decode cX4_put 88 = .ok (.dup, 1) := by decide +kernel
theorem dX4_put_89 : decode cX4_put 89 = .ok (.getfield 29, 3) := by decide +kernel
theorem dX4_put_92 : decode cX4_put 92 = .ok (.iconst 1, 1) := by decide +kernel
theorem dX4_put_93 : decode cX4_put 93 = .ok (.iadd, 1) := by decide +kernel
theorem dX4_put_94 : decode cX4_put 94 = .ok (.putfield 29, 3) := by decide +kernel
theorem dX4_put_97 : decode cX4_put 97 = .ok (.return_, 1) := by decide +kernel
set_option maxRecDepth 20000 in
theorem ggX4_kindOf_X4_wordOf : GoodIn wsX4_kindOf wsX4_wordOf := goodIn_r _ [5, 6, 7, 8, 4, 9, 10, 11, 12, 13, 14, 15, 16, 17, 18, 19, 20, 21, 22, 23, 24, 25, 26, 27, 28, 29, 30, 31, 32, 33, 34, 35, 36, 37, 38, 39, 40, 41, 42, 43, 44, 45, 46, 47, 48, 49, 50, 51, 52, 53, 54, 55, 56, 57, 58, 59, 60, 61, 62, 63, 64, 65, 66, 67, 68, 69, 70] (by decide +kernel) (by decide +kernel)
set_option maxRecDepth 20000 in
theorem gX4_kindOf_X4_wordOf : GoodIn wsX4_kindOf (wsV RX4 56 RX4 yX4_wordOf wsX4_wordOf) := goodIn_app (goodIn_of _ (by decide +kernel)) ggX4_kindOf_X4_wordOf
set_option maxRecDepth 20000 in
theorem ggX4_kindOf_X4_byteAt : GoodIn wsX4_kindOf wsX4_byteAt := goodIn_r _ [25, 26, 27, 65, 66, 67, 68, 69, 70] (by decide +kernel) (by decide +kernel)
set_option maxRecDepth 20000 in
theorem gX4_kindOf_X4_byteAt : GoodIn wsX4_kindOf (wsV RX4 59 RX4 yX4_byteAt wsX4_byteAt) := goodIn_app (goodIn_of _ (by decide +kernel)) ggX4_kindOf_X4_byteAt
