theorem dX4_kindOf_0 : decode cX4_kindOf 0 = .ok (.iload_n 1, 1) := by decide +kernel
theorem dX4_kindOf_1 : decode cX4_kindOf 1 = .ok (.lookupswitch 50 #[(2, 27), (3, 34)], 27) := by decide +kernel
theorem dX4_kindOf_28 : decode cX4_kindOf 28 = .ok (.aload_n 0, 1) := by decide +kernel
theorem dX4_kindOf_29 : decode cX4_kindOf 29 = .ok (.iload_n 2, 1) := by decide +kernel
theorem dX4_kindOf_30 : decode cX4_kindOf 30 = .ok (.iload_n 3, 1) := by decide +kernel
theorem dX4_kindOf_31 : decode cX4_kindOf 31 = .ok (.invokevirtual 56, 3) := by decide +kernel
theorem dX4_kindOf_34 : decode cX4_kindOf 34 = .ok (.ireturn, 1) := by decide +kernel
theorem dX4_kindOf_35 : decode cX4_kindOf 35 = .ok (.iload_n 3, 1) := by decide +kernel
theorem dX4_kindOf_36 : decode cX4_kindOf 36 = .ok (.iload_n 2, 1) := by decide +kernel
theorem dX4_kindOf_37 : decode cX4_kindOf 37 = .ok (.isub, 1) := by decide +kernel
theorem dX4_kindOf_38 : decode cX4_kindOf 38 = .ok (.bipush 9, 2) := by decide +kernel
theorem dX4_kindOf_40 : decode cX4_kindOf 40 = .ok (.if_icmp .le 8, 3) := by decide +kernel
theorem dX4_kindOf_43 : decode cX4_kindOf 43 = .ok (.bipush (-6), 2) := by decide +kernel
theorem dX4_kindOf_45 : decode cX4_kindOf 45 = .ok (.goto 5, 3) := by decide +kernel
theorem dX4_kindOf_48 : decode cX4_kindOf 48 = .ok (.bipush (-2), 2) := by decide +kernel
theorem dX4_kindOf_50 : decode cX4_kindOf 50 = .ok (.ireturn, 1) := by decide +kernel
theorem dX4_kindOf_51 : decode cX4_kindOf 51 = .ok (.aload_n 0, 1) := by decide +kernel
theorem dX4_kindOf_52 : decode cX4_kindOf 52 = .ok (.iload_n 2, 1) := by decide +kernel
theorem dX4_kindOf_53 : decode cX4_kindOf 53 = .ok (.invokevirtual 59, 3) := by decide +kernel
theorem dX4_kindOf_56 : decode cX4_kindOf 56 = .ok (.ireturn, 1) := by decide +kernel
set_option maxRecDepth 20000 in
theorem ggX4_wordOf_X4_isWord : GoodIn wsX4_wordOf wsX4_isWord := goodIn_r _ [5, 6, 7, 8, 9, 10, 11, 12, 13, 14, 15, 16, 17, 18, 19, 20, 4, 21, 22, 23, 24, 25, 26, 27, 28, 29, 30, 31, 32, 33, 34, 35, 36, 37, 38, 39, 40, 41, 42, 43, 44, 45, 46, 47, 48, 49, 50, 51, 52, 53, 54, 55, 56, 57, 58, 59, 60, 61, 62, 63, 64, 65, 66] (by decide +kernel) (by decide +kernel)
set_option maxRecDepth 20000 in
theorem gX4_wordOf_X4_isWord : GoodIn wsX4_wordOf (wsV RX4 64 RX4 yX4_isWord wsX4_isWord) := goodIn_app (goodIn_of _ (by decide +kernel)) ggX4_wordOf_X4_isWord
theorem dX4_wordOf_0 : decode cX4_wordOf 0 = .ok (.aload_n 0, 1) := by decide +kernel
theorem dX4_wordOf_1 : decode cX4_wordOf 1 = .ok (.ldc 62, 2) := by decide +kernel
theorem dX4_wordOf_3 : decode cX4_wordOf 3 = .ok (.iload_n 1, 1) := by decide +kernel
theorem dX4_wordOf_4 : decode cX4_wordOf 4 = .ok (.iload_n 2, 1) := by decide +kernel
theorem dX4_wordOf_5 : decode cX4_wordOf 5 = .ok (.invokevirtual 64, 3) := by decide +kernel
theorem dX4_wordOf_8 : decode cX4_wordOf 8 = .ok (.ifCond .eq 6, 3) := by decide +kernel
theorem dX4_wordOf_11 : decode cX4_wordOf 11 = .ok (.bipush (-4), 2) := by decide +kernel
theorem dX4_wordOf_13 : decode cX4_wordOf 13 = .ok (.ireturn, 1) := by decide +kernel
theorem dX4_wordOf_14 : decode cX4_wordOf 14 = .ok (.aload_n 0, 1) := by decide +kernel
theorem dX4_wordOf_15 : decode cX4_wordOf 15 = .ok (.ldc 68, 2) := by decide +kernel
theorem dX4_wordOf_17 : decode cX4_wordOf 17 = .ok (.iload_n 1, 1) := by decide +kernel
theorem dX4_wordOf_18 : decode cX4_wordOf 18 = .ok (.iload_n 2, 1) := by decide +kernel
theorem dX4_wordOf_19 : decode cX4_wordOf 19 = .ok (.invokevirtual 64, 3) := by decide +kernel
theorem dX4_wordOf_22 : decode cX4_wordOf 22 = .ok (.ifCond .eq 6, 3) := by decide +kernel
theorem dX4_wordOf_25 : decode cX4_wordOf 25 = .ok (.bipush (-3), 2) := by decide +kernel
theorem dX4_wordOf_27 : decode cX4_wordOf 27 = .ok (.ireturn, 1) := by decide +kernel
theorem dX4_wordOf_28 : decode cX4_wordOf 28 = .ok (.aload_n 0, 1) := by decide +kernel
theorem dX4_wordOf_29 : decode cX4_wordOf 29 = .ok (.ldc 70, 2) := by decide +kernel
theorem dX4_wordOf_31 : decode cX4_wordOf 31 = .ok (.iload_n 1, 1) := by decide +kernel
theorem dX4_wordOf_32 : decode cX4_wordOf 32 = .ok (.iload_n 2, 1) := by decide +kernel
theorem dX4_wordOf_33 : decode cX4_wordOf 33 = .ok (.invokevirtual 64, 3) := by decide +kernel
theorem dX4_wordOf_36 : decode cX4_wordOf 36 = .ok (.ifCond .eq 8, 3) := by decide +kernel
theorem dX4_wordOf_39 : decode cX4_wordOf 39 = .ok (.bipush (-5), 2) := by decide +kernel
theorem dX4_wordOf_41 : decode cX4_wordOf 41 = .ok (.goto 5, 3) := by decide +kernel
theorem dX4_wordOf_44 : decode cX4_wordOf 44 = .ok (.bipush (-6), 2) := by decide +kernel
theorem dX4_wordOf_46 : decode cX4_wordOf 46 = .ok (.ireturn, 1) := by decide +kernel
set_option maxRecDepth 20000 in
theorem ggX4_isWord_J0_length_8abf5 : GoodIn wsX4_isWord wsJ0_length_8abf5 := goodIn_r _ [5, 6, 7, 8, 9, 4, 10, 11, 12] (by decide +kernel) (by decide +kernel)
set_option maxRecDepth 20000 in
theorem gX4_isWord_J0_length_8abf5 : GoodIn wsX4_isWord (wsV RX4 72 RJ0 yJ0_length_8abf5 wsJ0_length_8abf5) := goodIn_app (goodIn_of _ (by decide +kernel)) ggX4_isWord_J0_length_8abf5
set_option maxRecDepth 20000 in
theorem ggX4_isWord_X4_byteAt : GoodIn wsX4_isWord wsX4_byteAt := goodIn_r _ [17, 18, 19, 57, 58, 59, 60, 61, 62] (by decide +kernel) (by decide +kernel)
set_option maxRecDepth 20000 in
theorem gX4_isWord_X4_byteAt : GoodIn wsX4_isWord (wsV RX4 59 RX4 yX4_byteAt wsX4_byteAt) := goodIn_app (goodIn_of _ (by decide +kernel)) ggX4_isWord_X4_byteAt
set_option maxRecDepth 20000 in
theorem ggX4_isWord_J0_charAt_5068e : GoodIn wsX4_isWord wsJ0_charAt_5068e := goodIn_r _ [23, 6, 24, 25, 26, 4, 27, 11, 12, 28, 29, 30, 31, 32, 33, 34, 35, 36, 37, 38, 39, 40, 41, 42, 43, 44, 45, 46, 47, 48, 49, 50, 51, 52, 53, 54, 55, 56] (by decide +kernel) (by decide +kernel)
set_option maxRecDepth 20000 in
theorem gX4_isWord_J0_charAt_5068e : GoodIn wsX4_isWord (wsV RX4 77 RJ0 yJ0_charAt_5068e wsJ0_charAt_5068e) := goodIn_app (goodIn_of _ (by decide +kernel)) ggX4_isWord_J0_charAt_5068e
theorem dX4_isWord_0 : decode cX4_isWord 0 = .ok (.iload_n 3, 1) := by decide +kernel
theorem dX4_isWord_1 : decode cX4_isWord 1 = .ok (.iload_n 2, 1) := by decide +kernel
theorem dX4_isWord_2 : decode cX4_isWord 2 = .ok (.isub, 1) := by decide +kernel
theorem dX4_isWord_3 : decode cX4_isWord 3 = .ok (.aload_n 1, 1) := by decide +kernel
theorem dX4_isWord_4 : decode cX4_isWord 4 = .ok (.invokevirtual 72, 3) := by decide +kernel
theorem dX4_isWord_7 : decode cX4_isWord 7 = .ok (.if_icmp .ne 7, 3) := by decide +kernel
theorem dX4_isWord_10 : decode cX4_isWord 10 = .ok (.iconst 1, 1) := by decide +kernel
theorem dX4_isWord_11 : decode cX4_isWord 11 = .ok (.goto 4, 3) := by decide +kernel
theorem dX4_isWord_14 : decode cX4_isWord 14 = .ok (.iconst 0, 1) := by decide +kernel
theorem dX4_isWord_15 : decode cX4_isWord 15 = .ok (.istore 4, 2) := by decide +kernel
theorem dX4_isWord_17 : decode cX4_isWord 17 = .ok (.iconst 0, 1) := by decide +kernel
theorem dX4_isWord_18 : decode cX4_isWord 18 = .ok (.istore 5, 2) := by decide +kernel
theorem dX4_isWord_20 : decode cX4_isWord 20 = .ok (.iload 4, 2) := by decide +kernel
theorem dX4_isWord_22 : decode cX4_isWord 22 = .ok (.ifCond .eq 42, 3) := by decide +kernel
theorem dX4_isWord_25 : decode cX4_isWord 25 = .ok (.iload 5, 2) := by decide +kernel
theorem dX4_isWord_27 : decode cX4_isWord 27 = .ok (.aload_n 1, 1) := by decide +kernel
theorem dX4_isWord_28 : decode cX4_isWord 28 = .ok (.invokevirtual 72, 3) := by decide +kernel
theorem dX4_isWord_31 : decode cX4_isWord 31 = .ok (.if_icmp .ge 33, 3) := by decide +kernel
theorem dX4_isWord_34 : decode cX4_isWord 34 = .ok (.aload_n 0, 1) := by decide +kernel
theorem dX4_isWord_35 : decode cX4_isWord 35 = .ok (.iload_n 2, 1) := by decide +kernel
theorem dX4_isWord_36 : decode cX4_isWord 36 = .ok (.iload 5, 2) := by decide +kernel
theorem dX4_isWord_38 : decode cX4_isWord 38 = .ok (.iadd, 1) := by decide +kernel
theorem dX4_isWord_39 : decode cX4_isWord 39 = .ok (.invokevirtual 59, 3) := by decide +kernel
theorem dX4_isWord_42 : decode cX4_isWord 42 = .ok (.aload_n 1, 1) := by decide +kernel
theorem dX4_isWord_43 : decode cX4_isWord 43 = .ok (.iload 5, 2) := by decide +kernel
theorem dX4_isWord_45 : decode cX4_isWord 45 = .ok (.invokevirtual 77, 3) := by decide +kernel
theorem dX4_isWord_48 : decode cX4_isWord 48 = .ok (.if_icmp .ne 7, 3) := by decide +kernel
theorem dX4_isWord_51 : decode cX4_isWord 51 = .ok (.iconst 1, 1) := by decide +kernel
theorem dX4_isWord_52 : decode cX4_isWord 52 = .ok (.goto 4, 3) := by decide +kernel
theorem dX4_isWord_55 : decode cX4_isWord 55 = .ok (.iconst 0, 1) := by decide +kernel
theorem dX4_isWord_56 : decode cX4_isWord 56 = .ok (.istore 4, 2) := by decide +kernel
theorem dX4_isWord_58 : decode cX4_isWord 58 = .ok (.iinc 5 1, 3) := by decide +kernel
theorem dX4_isWord_61 : decode cX4_isWord 61 = .ok (.goto (-41), 3) := by decide +kernel
theorem dX4_isWord_64 : decode cX4_isWord 64 = .ok (.iload 4, 2) := by decide +kernel
theorem dX4_isWord_66 : decode cX4_isWord 66 = .ok (.ireturn, 1) := by decide +kernel
set_option maxRecDepth 20000 in
theorem ggX4_readDigits_X4_sortAt : GoodIn wsX4_readDigits wsX4_sortAt := goodIn_r _ [5, 6, 7, 8, 4, 9, 10, 11, 12, 13, 14, 15, 16, 17] (by decide +kernel) (by decide +kernel)
set_option maxRecDepth 20000 in
theorem gX4_readDigits_X4_sortAt : GoodIn wsX4_readDigits (wsV RX4 41 RX4 yX4_sortAt wsX4_sortAt) := goodIn_app (goodIn_of _ (by decide +kernel)) ggX4_readDigits_X4_sortAt
set_option maxRecDepth 20000 in
theorem ggX4_readDigits_X4_byteAt : GoodIn wsX4_readDigits wsX4_byteAt := goodIn_r _ [9, 10, 11, 12, 13, 14, 15, 16, 17] (by decide +kernel) (by decide +kernel)
set_option maxRecDepth 20000 in
theorem gX4_readDigits_X4_byteAt : GoodIn wsX4_readDigits (wsV RX4 59 RX4 yX4_byteAt wsX4_byteAt) := goodIn_app (goodIn_of _ (by decide +kernel)) ggX4_readDigits_X4_byteAt
theorem dX4_readDigits_0 : decode cX4_readDigits 0 = .ok (.iconst 0, 1) := by decide +kernel
theorem dX4_readDigits_1 : decode cX4_readDigits 1 = .ok (.istore_n 2, 1) := by decide +kernel
theorem dX4_readDigits_2 : decode cX4_readDigits 2 = .ok (.iconst 0, 1) := by decide +kernel
theorem dX4_readDigits_3 : decode cX4_readDigits 3 = .ok (.istore_n 3, 1) := by decide +kernel
theorem dX4_readDigits_4 : decode cX4_readDigits 4 = .ok (.iload_n 3, 1) := by decide +kernel
theorem dX4_readDigits_5 : decode cX4_readDigits 5 = .ok (.bipush 9, 2) := by decide +kernel
theorem dX4_readDigits_7 : decode cX4_readDigits 7 = .ok (.if_icmp .ge 36, 3) := by decide +kernel
theorem dX4_readDigits_10 : decode cX4_readDigits 10 = .ok (.aload_n 0, 1) := by decide +kernel
theorem dX4_readDigits_11 : decode cX4_readDigits 11 = .ok (.iload_n 1, 1) := by decide +kernel
theorem dX4_readDigits_12 : decode cX4_readDigits 12 = .ok (.iload_n 3, 1) := by decide +kernel
theorem dX4_readDigits_13 : decode cX4_readDigits 13 = .ok (.iadd, 1) := by decide +kernel
theorem dX4_readDigits_14 : decode cX4_readDigits 14 = .ok (.invokevirtual 41, 3) := by decide +kernel
theorem dX4_readDigits_17 : decode cX4_readDigits 17 = .ok (.iconst 3, 1) := by decide +kernel
theorem dX4_readDigits_18 : decode cX4_readDigits 18 = .ok (.if_icmp .ne 25, 3) := by decide +kernel
theorem dX4_readDigits_21 : decode cX4_readDigits 21 = .ok (.bipush 10, 2) := by decide +kernel
theorem dX4_readDigits_23 : decode cX4_readDigits 23 = .ok (.iload_n 2, 1) := by decide +kernel
theorem dX4_readDigits_24 : decode cX4_readDigits 24 = .ok (.imul, 1) := by decide +kernel
theorem dX4_readDigits_25 : decode cX4_readDigits 25 = .ok (.aload_n 0, 1) := by decide +kernel
theorem dX4_readDigits_26 : decode cX4_readDigits 26 = .ok (.iload_n 1, 1) := by decide +kernel
theorem dX4_readDigits_27 : decode cX4_readDigits 27 = .ok (.iload_n 3, 1) := by decide +kernel
theorem dX4_readDigits_28 : decode cX4_readDigits 28 = .ok (.iadd, 1) := by decide +kernel
theorem dX4_readDigits_29 : decode cX4_readDigits 29 = .ok (.invokevirtual 59, 3) := by decide +kernel
theorem dX4_readDigits_32 : decode cX4_readDigits 32 = .ok (.iadd, 1) := by decide +kernel
theorem dX4_readDigits_33 : decode cX4_readDigits 33 = .ok (.bipush 48, 2) := by decide +kernel
theorem dX4_readDigits_35 : decode cX4_readDigits 35 = .ok (.isub, 1) := by decide +kernel
theorem dX4_readDigits_36 : decode cX4_readDigits 36 = .ok (.istore_n 2, 1) := by decide +kernel
theorem dX4_readDigits_37 : decode cX4_readDigits 37 = .ok (.iinc 3 1, 3) := by decide +kernel
theorem dX4_readDigits_40 : decode cX4_readDigits 40 = .ok (.goto (-36), 3) := by decide +kernel
theorem dX4_readDigits_43 : decode cX4_readDigits 43 = .ok (.iload_n 2, 1) := by decide +kernel
theorem dX4_readDigits_44 : decode cX4_readDigits 44 = .ok (.ireturn, 1) := by decide +kernel
set_option maxRecDepth 20000 in
theorem ggX4_pastRun_X4_sortAt : GoodIn wsX4_pastRun wsX4_sortAt := goodIn_r _ [5, 6, 7, 8, 4, 9, 10, 11, 12, 13, 14, 15, 16, 17] (by decide +kernel) (by decide +kernel)
set_option maxRecDepth 20000 in
theorem gX4_pastRun_X4_sortAt : GoodIn wsX4_pastRun (wsV RX4 41 RX4 yX4_sortAt wsX4_sortAt) := goodIn_app (goodIn_of _ (by decide +kernel)) ggX4_pastRun_X4_sortAt
theorem dX4_pastRun_0 : decode cX4_pastRun 0 = .ok (.iload_n 1, 1) := by decide +kernel
theorem dX4_pastRun_1 : decode cX4_pastRun 1 = .ok (.istore_n 3, 1) := by decide +kernel
theorem dX4_pastRun_2 : decode cX4_pastRun 2 = .ok (.iconst 0, 1) := by decide +kernel
theorem dX4_pastRun_3 : decode cX4_pastRun 3 = .ok (.istore 4, 2) := by decide +kernel
theorem dX4_pastRun_5 : decode cX4_pastRun 5 = .ok (.iload 4, 2) := by decide +kernel
theorem dX4_pastRun_7 : decode cX4_pastRun 7 = .ok (.sipush 300, 3) := by decide +kernel
theorem dX4_pastRun_10 : decode cX4_pastRun 10 = .ok (.if_icmp .ge 21, 3) := by decide +kernel
theorem dX4_pastRun_13 : decode cX4_pastRun 13 = .ok (.aload_n 0, 1) := by decide +kernel
theorem dX4_pastRun_14 : decode cX4_pastRun 14 = .ok (.iload_n 3, 1) := by decide +kernel
theorem dX4_pastRun_15 : decode cX4_pastRun 15 = .ok (.invokevirtual 41, 3) := by decide +kernel
theorem dX4_pastRun_18 : decode cX4_pastRun 18 = .ok (.iload_n 2, 1) := by decide +kernel
theorem dX4_pastRun_19 : decode cX4_pastRun 19 = .ok (.if_icmp .ne 12, 3) := by decide +kernel
theorem dX4_pastRun_22 : decode cX4_pastRun 22 = .ok (.iinc 3 1, 3) := by decide +kernel
theorem dX4_pastRun_25 : decode cX4_pastRun 25 = .ok (.iinc 4 1, 3) := by decide +kernel
theorem dX4_pastRun_28 : decode cX4_pastRun 28 = .ok (.goto (-23), 3) := by decide +kernel
theorem dX4_pastRun_31 : decode cX4_pastRun 31 = .ok (.iload_n 3, 1) := by decide +kernel
theorem dX4_pastRun_32 : decode cX4_pastRun 32 = .ok (.ireturn, 1) := by decide +kernel
set_option maxRecDepth 20000 in
theorem ggX4_sortAt_X4_byteAt : GoodIn wsX4_sortAt wsX4_byteAt := goodIn_r _ [5, 6, 7, 8, 9, 10, 11, 12, 13] (by decide +kernel) (by decide +kernel)
set_option maxRecDepth 20000 in
theorem gX4_sortAt_X4_byteAt : GoodIn wsX4_sortAt (wsV RX4 59 RX4 yX4_byteAt wsX4_byteAt) := goodIn_app (goodIn_of _ (by decide +kernel)) ggX4_sortAt_X4_byteAt
theorem dX4_sortAt_0 : decode cX4_sortAt 0 = .ok (.aload_n 0, 1) := by decide +kernel
theorem dX4_sortAt_1 : decode cX4_sortAt 1 = .ok (.iload_n 1, 1) := by decide +kernel
theorem dX4_sortAt_2 : decode cX4_sortAt 2 = .ok (.invokevirtual 59, 3) := by decide +kernel
theorem dX4_sortAt_5 : decode cX4_sortAt 5 = .ok (.istore_n 2, 1) := by decide +kernel
theorem dX4_sortAt_6 : decode cX4_sortAt 6 = .ok (.iload_n 2, 1) := by decide +kernel
theorem dX4_sortAt_7 : decode cX4_sortAt 7 = .ok (.bipush 32, 2) := by decide +kernel
theorem dX4_sortAt_9 : decode cX4_sortAt 9 = .ok (.if_icmp .eq 9, 3) := by decide +kernel
theorem dX4_sortAt_12 : decode cX4_sortAt 12 = .ok (.iload_n 2, 1) := by decide +kernel
theorem dX4_sortAt_13 : decode cX4_sortAt 13 = .ok (.bipush 10, 2) := by decide +kernel
theorem dX4_sortAt_15 : decode cX4_sortAt 15 = .ok (.if_icmp .ne 5, 3) := by decide +kernel
theorem dX4_sortAt_18 : decode cX4_sortAt 18 = .ok (.iconst 1, 1) := by decide +kernel
theorem dX4_sortAt_19 : decode cX4_sortAt 19 = .ok (.ireturn, 1) := by decide +kernel
theorem dX4_sortAt_20 : decode cX4_sortAt 20 = .ok (.iload_n 2, 1) := by decide +kernel
theorem dX4_sortAt_21 : decode cX4_sortAt 21 = .ok (.bipush 97, 2) := by decide +kernel
theorem dX4_sortAt_23 : decode cX4_sortAt 23 = .ok (.if_icmp .lt 11, 3) := by decide +kernel
theorem dX4_sortAt_26 : decode cX4_sortAt 26 = .ok (.iload_n 2, 1) := by decide +kernel
theorem dX4_sortAt_27 : decode cX4_sortAt 27 = .ok (.bipush 122, 2) := by decide +kernel
theorem dX4_sortAt_29 : decode cX4_sortAt 29 = .ok (.if_icmp .gt 5, 3) := by decide +kernel
theorem dX4_sortAt_32 : decode cX4_sortAt 32 = .ok (.iconst 2, 1) := by decide +kernel
theorem dX4_sortAt_33 : decode cX4_sortAt 33 = .ok (.ireturn, 1) := by decide +kernel
theorem dX4_sortAt_34 : decode cX4_sortAt 34 = .ok (.iload_n 2, 1) := by decide +kernel
theorem dX4_sortAt_35 : decode cX4_sortAt 35 = .ok (.bipush 48, 2) := by decide +kernel
theorem dX4_sortAt_37 : decode cX4_sortAt 37 = .ok (.if_icmp .lt 13, 3) := by decide +kernel
theorem dX4_sortAt_40 : decode cX4_sortAt 40 = .ok (.iload_n 2, 1) := by decide +kernel
theorem dX4_sortAt_41 : decode cX4_sortAt 41 = .ok (.bipush 57, 2) := by decide +kernel
theorem dX4_sortAt_43 : decode cX4_sortAt 43 = .ok (.if_icmp .gt 7, 3) := by decide +kernel
theorem dX4_sortAt_46 : decode cX4_sortAt 46 = .ok (.iconst 3, 1) := by decide +kernel
theorem dX4_sortAt_47 : decode cX4_sortAt 47 = .ok (.goto 4, 3) := by decide +kernel
theorem dX4_sortAt_50 : decode cX4_sortAt 50 = .ok (.iconst 0, 1) := by decide +kernel
theorem dX4_sortAt_51 : decode cX4_sortAt 51 = .ok (.ireturn, 1) := by decide +kernel
theorem dX4_byteAt_0 : decode cX4_byteAt 0 = .ok (.iload_n 1, 1) := by decide +kernel
theorem dX4_byteAt_1 : decode cX4_byteAt 1 = .ok (.ifCond .lt 33, 3) := by decide +kernel
theorem dX4_byteAt_4 : decode cX4_byteAt 4 = .ok (.iload_n 1, 1) := by decide +kernel
theorem dX4_byteAt_5 : decode cX4_byteAt 5 = .ok (.aload_n 0, 1) := by decide +kernel
theorem dX4_byteAt_6 : decode cX4_byteAt 6 = .ok (.getfield 25, 3) := by decide +kernel
theorem dX4_byteAt_9 : decode cX4_byteAt 9 = .ok (.if_icmp .ge 25, 3) := by decide +kernel
theorem dX4_byteAt_12 : decode cX4_byteAt 12 = .ok (.iload_n 1, 1) := by decide +kernel
theorem dX4_byteAt_13 : decode cX4_byteAt 13 = .ok (.aload_n 0, 1) := by decide +kernel
theorem dX4_byteAt_14 : decode cX4_byteAt 14 = .ok (.getfield 9, 3) := by decide +kernel
theorem dX4_byteAt_17 : decode cX4_byteAt 17 = .ok (.arraylength, 1) := by decide +kernel
theorem dX4_byteAt_18 : decode cX4_byteAt 18 = .ok (.if_icmp .ge 16, 3) := by decide +kernel
theorem dX4_byteAt_21 : decode cX4_byteAt 21 = .ok (.aload_n 0, 1) := by decide +kernel
theorem dX4_byteAt_22 : decode cX4_byteAt 22 = .ok (.getfield 9, 3) := by decide +kernel
theorem dX4_byteAt_25 : decode cX4_byteAt 25 = .ok (.iload_n 1, 1) := by decide +kernel
theorem dX4_byteAt_26 : decode cX4_byteAt 26 = .ok (.baload, 1) := by decide +kernel
theorem dX4_byteAt_27 : decode cX4_byteAt 27 = .ok (.sipush 255, 3) := by decide +kernel
theorem dX4_byteAt_30 : decode cX4_byteAt 30 = .ok (.iand, 1) := by decide +kernel
theorem dX4_byteAt_31 : decode cX4_byteAt 31 = .ok (.goto 4, 3) := by decide +kernel
theorem dX4_byteAt_34 : decode cX4_byteAt 34 = .ok (.iconst (-1), 1) := by decide +kernel
theorem dX4_byteAt_35 : decode cX4_byteAt 35 = .ok (.ireturn, 1) := by decide +kernel
theorem dX5_divisor_0 : decode cX5_divisor 0 = .ok (.lload_n 0, 1) := by decide +kernel
theorem dX5_divisor_1 : decode cX5_divisor 1 = .ok (.invokestatic 9, 3) := by decide +kernel
theorem dX5_divisor_4 : decode cX5_divisor 4 = .ok (.lstore 4, 2) := by decide +kernel
theorem dX5_divisor_6 : decode cX5_divisor 6 = .ok (.lload_n 2, 1) := by decide +kernel
theorem dX5_divisor_7 : decode cX5_divisor 7 = .ok (.invokestatic 9, 3) := by decide +kernel
theorem dX5_divisor_10 : decode cX5_divisor 10 = .ok (.lstore 6, 2) := by decide +kernel
theorem dX5_divisor_12 : decode cX5_divisor 12 = .ok (.iconst 0, 1) := by decide +kernel
theorem dX5_divisor_13 : decode cX5_divisor 13 = .ok (.istore 8, 2) := by decide +kernel
theorem dX5_divisor_15 : decode cX5_divisor 15 = .ok (.iload 8, 2) := by decide +kernel
theorem dX5_divisor_17 : decode cX5_divisor 17 = .ok (.sipush 200, 3) := by decide +kernel
theorem dX5_divisor_20 : decode cX5_divisor 20 = .ok (.if_icmp .ge 31, 3) := by decide +kernel
theorem dX5_divisor_23 : decode cX5_divisor 23 = .ok (.lload 6, 2) := by decide +kernel
theorem dX5_divisor_25 : decode cX5_divisor 25 = .ok (.lconst 0, 1) := by decide +kernel
theorem dX5_divisor_26 : decode cX5_divisor 26 = .ok (.lcmp, 1) := by decide +kernel
theorem dX5_divisor_27 : decode cX5_divisor 27 = .ok (.ifCond .eq 24, 3) := by decide +kernel
theorem dX5_divisor_30 : decode cX5_divisor 30 = .ok (.lload 4, 2) := by decide +kernel
theorem dX5_divisor_32 : decode cX5_divisor 32 = .ok (.lload 6, 2) := by decide +kernel
theorem dX5_divisor_34 : decode cX5_divisor 34 = .ok (.lrem, 1) := by decide +kernel
theorem dX5_divisor_35 : decode cX5_divisor 35 = .ok (.lstore 9, 2) := by decide +kernel
theorem dX5_divisor_37 : decode cX5_divisor 37 = .ok (.lload 6, 2) := by decide +kernel
theorem dX5_divisor_39 : decode cX5_divisor 39 = .ok (.lstore 4, 2) := by decide +kernel
theorem dX5_divisor_41 : decode cX5_divisor 41 = .ok (.lload 9, 2) := by decide +kernel
theorem dX5_divisor_43 : decode cX5_divisor 43 = .ok (.lstore 6, 2) := by decide +kernel
theorem dX5_divisor_45 : decode cX5_divisor 45 = .ok (.iinc 8 1, 3) := by decide +kernel
theorem dX5_divisor_48 : decode cX5_divisor 48 = .ok (.goto (-33), 3) := by decide +kernel
theorem dX5_divisor_51 : decode cX5_divisor 51 = .ok (.lload 4, 2) := by decide +kernel
theorem dX5_divisor_53 : decode cX5_divisor 53 = .ok (.lconst 1, 1) := by decide +kernel
theorem dX5_divisor_54 : decode cX5_divisor 54 = .ok (.invokestatic 15, 3) := by decide +kernel
theorem dX5_divisor_57 : decode cX5_divisor 57 = .ok (.lreturn, 1) := by decide +kernel
set_option maxRecDepth 20000 in
theorem ggX5_inverse_J9_floorMod_f86c9 : GoodIn wsX5_inverse wsJ9_floorMod_f86c9 := goodIn_r _ [4] (by decide +kernel) (by decide +kernel)
set_option maxRecDepth 20000 in
theorem gX5_inverse_J9_floorMod_f86c9 : GoodIn wsX5_inverse (va_wsS RX5 19 yJ9_floorMod_f86c9 wsJ9_floorMod_f86c9) := goodIn_app (goodIn_of _ (by decide +kernel)) ggX5_inverse_J9_floorMod_f86c9
theorem dX5_inverse_0 : decode cX5_inverse 0 = .ok (.lload_n 2, 1) := by decide +kernel
theorem dX5_inverse_1 : decode cX5_inverse 1 = .ok (.lconst 1, 1) := by decide +kernel
theorem dX5_inverse_2 : decode cX5_inverse 2 = .ok (.lcmp, 1) := by decide +kernel
theorem dX5_inverse_3 : decode cX5_inverse 3 = .ok (.ifCond .ge 5, 3) := by decide +kernel
theorem dX5_inverse_6 : decode cX5_inverse 6 = .ok (.lconst 0, 1) := by decide +kernel
theorem dX5_inverse_7 : decode cX5_inverse 7 = .ok (.lreturn, 1) := by decide +kernel
theorem dX5_inverse_8 : decode cX5_inverse 8 = .ok (.lload_n 2, 1) := by decide +kernel
theorem dX5_inverse_9 : decode cX5_inverse 9 = .ok (.lstore 4, 2) := by decide +kernel
theorem dX5_inverse_11 : decode cX5_inverse 11 = .ok (.lload_n 0, 1) := by decide +kernel
theorem dX5_inverse_12 : decode cX5_inverse 12 = .ok (.lload_n 2, 1) := by decide +kernel
theorem dX5_inverse_13 : decode cX5_inverse 13 = .ok (.invokestatic 19, 3) := by decide +kernel
theorem dX5_inverse_16 : decode cX5_inverse 16 = .ok (.lstore 6, 2) := by decide +kernel
theorem dX5_inverse_18 : decode cX5_inverse 18 = .ok (.lconst 0, 1) := by decide +kernel
theorem dX5_inverse_19 : decode cX5_inverse 19 = .ok (.lstore 8, 2) := by decide +kernel
theorem dX5_inverse_21 : decode cX5_inverse 21 = .ok (.lconst 1, 1) := by decide +kernel
theorem dX5_inverse_22 : decode cX5_inverse 22 = .ok (.lstore 10, 2) := by decide +kernel
theorem dX5_inverse_24 : decode cX5_inverse 24 = .ok (.iconst 0, 1) := by decide +kernel
theorem dX5_inverse_25 : decode cX5_inverse 25 = .ok (.istore 12, 2) := by decide +kernel
theorem dX5_inverse_27 : decode cX5_inverse 27 = .ok (.iload 12, 2) := by decide +kernel
theorem dX5_inverse_29 : decode cX5_inverse 29 = .ok (.sipush 200, 3) := by decide +kernel
theorem dX5_inverse_32 : decode cX5_inverse 32 = .ok (.if_icmp .ge 59, 3) := by decide +kernel
theorem dX5_inverse_35 : decode cX5_inverse 35 = .ok (.lload 6, 2) := by decide +kernel
theorem dX5_inverse_37 : decode cX5_inverse 37 = .ok (.lconst 0, 1) := by decide +kernel
theorem dX5_inverse_38 : decode cX5_inverse 38 = .ok (.lcmp, 1) := by decide +kernel
theorem dX5_inverse_39 : decode cX5_inverse 39 = .ok (.ifCond .eq 52, 3) := by decide +kernel
theorem dX5_inverse_42 : decode cX5_inverse 42 = .ok (.lload 4, 2) := by decide +kernel
theorem dX5_inverse_44 : decode cX5_inverse 44 = .ok (.lload 6, 2) := by decide +kernel
theorem dX5_inverse_46 : decode cX5_inverse 46 = .ok (.ldiv, 1) := by decide +kernel
theorem dX5_inverse_47 : decode cX5_inverse 47 = .ok (.lstore 13, 2) := by decide +kernel
theorem dX5_inverse_49 : decode cX5_inverse 49 = .ok (.lload 4, 2) := by decide +kernel
theorem dX5_inverse_51 : decode cX5_inverse 51 = .ok (.lload 13, 2) := by decide +kernel
theorem dX5_inverse_53 : decode cX5_inverse 53 = .ok (.lload 6, 2) := by decide +kernel
theorem dX5_inverse_55 : decode cX5_inverse 55 = .ok (.lmul, 1) := by decide +kernel
theorem dX5_inverse_56 : decode cX5_inverse 56 = .ok (.lsub, 1) := by decide +kernel
theorem dX5_inverse_57 : decode cX5_inverse 57 = .ok (.lstore 15, 2) := by decide +kernel
theorem dX5_inverse_59 : decode cX5_inverse 59 = .ok (.lload 8, 2) := by decide +kernel
theorem dX5_inverse_61 : decode cX5_inverse 61 = .ok (.lload 13, 2) := by decide +kernel
theorem dX5_inverse_63 : decode cX5_inverse 63 = .ok (.lload 10, 2) := by decide +kernel
theorem dX5_inverse_65 : decode cX5_inverse 65 = .ok (.lmul, 1) := by decide +kernel
theorem dX5_inverse_66 : decode cX5_inverse 66 = .ok (.lsub, 1) := by decide +kernel
theorem dX5_inverse_67 : decode cX5_inverse 67 = .ok (.lstore 17, 2) := by decide +kernel
theorem dX5_inverse_69 : decode cX5_inverse 69 = .ok (.lload 6, 2) := by decide +kernel
theorem dX5_inverse_71 : decode cX5_inverse 71 = .ok (.lstore 4, 2) := by decide +kernel
theorem dX5_inverse_73 : decode cX5_inverse 73 = .ok (.lload 15, 2) := by decide +kernel
theorem dX5_inverse_75 : decode cX5_inverse 75 = .ok (.lstore 6, 2) := by decide +kernel
theorem dX5_inverse_77 : decode cX5_inverse 77 = .ok (.lload 10, 2) := by decide +kernel
theorem dX5_inverse_79 : decode cX5_inverse 79 = .ok (.lstore 8, 2) := by decide +kernel
theorem dX5_inverse_81 : decode cX5_inverse 81 = .ok (.lload 17, 2) := by decide +kernel
theorem dX5_inverse_83 : decode cX5_inverse 83 = .ok (.lstore 10, 2) := by decide +kernel
theorem dX5_inverse_85 : decode cX5_inverse 85 = .ok (.iinc 12 1, 3) := by decide +kernel
theorem dX5_inverse_88 : decode cX5_inverse 88 = .ok (.goto (-61), 3) := by decide +kernel
theorem dX5_inverse_91 : decode cX5_inverse 91 = .ok (.lload 8, 2) := by decide +kernel
theorem dX5_inverse_93 : decode cX5_inverse 93 = .ok (.lload_n 2, 1) := by decide +kernel
theorem dX5_inverse_94 : decode cX5_inverse 94 = .ok (.invokestatic 19, 3) := by decide +kernel
theorem dX5_inverse_97 : decode cX5_inverse 97 = .ok (.lreturn, 1) := by decide +kernel
set_option maxRecDepth 20000 in
theorem ggX5_twelfths_J9_floorMod_f86c9 : GoodIn wsX5_twelfths wsJ9_floorMod_f86c9 := goodIn_r _ [5] (by decide +kernel) (by decide +kernel)
set_option maxRecDepth 20000 in
theorem gX5_twelfths_J9_floorMod_f86c9 : GoodIn wsX5_twelfths (va_wsS RX5 19 yJ9_floorMod_f86c9 wsJ9_floorMod_f86c9) := goodIn_app (goodIn_of _ (by decide +kernel)) ggX5_twelfths_J9_floorMod_f86c9
theorem dX5_twelfths_0 : decode cX5_twelfths 0 = .ok (.lload_n 2, 1) := by decide +kernel
theorem dX5_twelfths_1 : decode cX5_twelfths 1 = .ok (.lconst 1, 1) := by decide +kernel
theorem dX5_twelfths_2 : decode cX5_twelfths 2 = .ok (.lcmp, 1) := by decide +kernel
theorem dX5_twelfths_3 : decode cX5_twelfths 3 = .ok (.ifCond .ge 5, 3) := by decide +kernel
theorem dX5_twelfths_6 : decode cX5_twelfths 6 = .ok (.lconst 0, 1) := by decide +kernel
theorem dX5_twelfths_7 : decode cX5_twelfths 7 = .ok (.lreturn, 1) := by decide +kernel
theorem dX5_twelfths_8 : decode cX5_twelfths 8 = .ok (.lload_n 0, 1) := by decide +kernel
theorem dX5_twelfths_9 : decode cX5_twelfths 9 = .ok (.lload_n 2, 1) := by decide +kernel
theorem dX5_twelfths_10 : decode cX5_twelfths 10 = .ok (.invokestatic 19, 3) := by decide +kernel
theorem dX5_twelfths_13 : decode cX5_twelfths 13 = .ok (.lstore 4, 2) := by decide +kernel
theorem dX5_twelfths_15 : decode cX5_twelfths 15 = .ok (.lload 4, 2) := by decide +kernel
theorem dX5_twelfths_17 : decode cX5_twelfths 17 = .ok (.lstore 6, 2) := by decide +kernel
theorem dX5_twelfths_19 : decode cX5_twelfths 19 = .ok (.lload_n 2, 1) := by decide +kernel
theorem dX5_twelfths_20 : decode cX5_twelfths 20 = .ok (.lstore 8, 2) := by decide +kernel
theorem dX5_twelfths_22 : decode cX5_twelfths 22 = .ok (.lconst 1, 1) := by decide +kernel
theorem dX5_twelfths_23 : decode cX5_twelfths 23 = .ok (.lstore 10, 2) := by decide +kernel
theorem dX5_twelfths_25 : decode cX5_twelfths 25 = .ok (.lconst 0, 1) := by decide +kernel
theorem dX5_twelfths_26 : decode cX5_twelfths 26 = .ok (.lstore 12, 2) := by decide +kernel
theorem dX5_twelfths_28 : decode cX5_twelfths 28 = .ok (.lconst 0, 1) := by decide +kernel
theorem dX5_twelfths_29 : decode cX5_twelfths 29 = .ok (.lstore 14, 2) := by decide +kernel
theorem dX5_twelfths_31 : decode cX5_twelfths 31 = .ok (.lconst 1, 1) := by decide +kernel
theorem dX5_twelfths_32 : decode cX5_twelfths 32 = .ok (.lstore 16, 2) := by decide +kernel
theorem dX5_twelfths_34 : decode cX5_twelfths 34 = .ok (.iconst 0, 1) := by decide +kernel
theorem dX5_twelfths_35 : decode cX5_twelfths 35 = .ok (.istore 18, 2) := by decide +kernel
theorem dX5_twelfths_37 : decode cX5_twelfths 37 = .ok (.iload 18, 2) := by decide +kernel
theorem dX5_twelfths_39 : decode cX5_twelfths 39 = .ok (.sipush 200, 3) := by decide +kernel
theorem dX5_twelfths_42 : decode cX5_twelfths 42 = .ok (.if_icmp .ge 71, 3) := by decide +kernel
theorem dX5_twelfths_45 : decode cX5_twelfths 45 = .ok (.lload 6, 2) := by decide +kernel
theorem dX5_twelfths_47 : decode cX5_twelfths 47 = .ok (.lconst 0, 1) := by decide +kernel
theorem dX5_twelfths_48 : decode cX5_twelfths 48 = .ok (.lcmp, 1) := by decide +kernel
theorem dX5_twelfths_49 : decode cX5_twelfths 49 = .ok (.ifCond .eq 64, 3) := by decide +kernel
theorem dX5_twelfths_52 : decode cX5_twelfths 52 = .ok (.lload 8, 2) := by decide +kernel
theorem dX5_twelfths_54 : decode cX5_twelfths 54 = .ok (.lload 6, 2) := by decide +kernel
theorem dX5_twelfths_56 : decode cX5_twelfths 56 = .ok (.ldiv, 1) := by decide +kernel
theorem dX5_twelfths_57 : decode cX5_twelfths 57 = .ok (.lstore 19, 2) := by decide +kernel
theorem dX5_twelfths_59 : decode cX5_twelfths 59 = .ok (.lload 8, 2) := by decide +kernel
theorem dX5_twelfths_61 : decode cX5_twelfths 61 = .ok (.lload 6, 2) := by decide +kernel
theorem dX5_twelfths_63 : decode cX5_twelfths 63 = .ok (.lrem, 1) := by decide +kernel
theorem dX5_twelfths_64 : decode cX5_twelfths 64 = .ok (.lstore 21, 2) := by decide +kernel
theorem dX5_twelfths_66 : decode cX5_twelfths 66 = .ok (.lload 12, 2) := by decide +kernel
theorem dX5_twelfths_68 : decode cX5_twelfths 68 = .ok (.lload 10, 2) := by decide +kernel
theorem dX5_twelfths_70 : decode cX5_twelfths 70 = .ok (.lload 19, 2) := by decide +kernel
theorem dX5_twelfths_72 : decode cX5_twelfths 72 = .ok (.lmul, 1) := by decide +kernel
theorem dX5_twelfths_73 : decode cX5_twelfths 73 = .ok (.ladd, 1) := by decide +kernel
theorem dX5_twelfths_74 : decode cX5_twelfths 74 = .ok (.lstore 12, 2) := by decide +kernel
theorem dX5_twelfths_76 : decode cX5_twelfths 76 = .ok (.lload 10, 2) := by decide +kernel
theorem dX5_twelfths_78 : decode cX5_twelfths 78 = .ok (.lneg, 1) := by decide +kernel
theorem dX5_twelfths_79 : decode cX5_twelfths 79 = .ok (.lstore 10, 2) := by decide +kernel
theorem dX5_twelfths_81 : decode cX5_twelfths 81 = .ok (.lload 19, 2) := by decide +kernel
theorem dX5_twelfths_83 : decode cX5_twelfths 83 = .ok (.lload 16, 2) := by decide +kernel
theorem dX5_twelfths_85 : decode cX5_twelfths 85 = .ok (.lmul, 1) := by decide +kernel
theorem dX5_twelfths_86 : decode cX5_twelfths 86 = .ok (.lload 14, 2) := by decide +kernel
theorem dX5_twelfths_88 : decode cX5_twelfths 88 = .ok (.ladd, 1) := by decide +kernel
theorem dX5_twelfths_89 : decode cX5_twelfths 89 = .ok (.lstore 23, 2) := by decide +kernel
theorem dX5_twelfths_91 : decode cX5_twelfths 91 = .ok (.lload 16, 2) := by decide +kernel
theorem dX5_twelfths_93 : decode cX5_twelfths 93 = .ok (.lstore 14, 2) := by decide +kernel
theorem dX5_twelfths_95 : decode cX5_twelfths 95 = .ok (.lload 23, 2) := by decide +kernel
theorem dX5_twelfths_97 : decode cX5_twelfths 97 = .ok (.lstore 16, 2) := by decide +kernel
theorem dX5_twelfths_99 : decode cX5_twelfths 99 = .ok (.lload 6, 2) := by decide +kernel
theorem dX5_twelfths_101 : decode cX5_twelfths 101 = .ok (.lstore 8, 2) := by decide +kernel
theorem dX5_twelfths_103 : decode cX5_twelfths 103 = .ok (.lload 21, 2) := by decide +kernel
theorem dX5_twelfths_105 : decode cX5_twelfths 105 = .ok (.lstore 6, 2) := by decide +kernel
theorem dX5_twelfths_107 : decode cX5_twelfths 107 = .ok (.iinc 18 1, 3) := by decide +kernel
theorem dX5_twelfths_110 : decode cX5_twelfths 110 = .ok (.goto (-73), 3) := by decide +kernel
theorem dX5_twelfths_113 : decode cX5_twelfths 113 = .ok (.lload 10, 2) := by decide +kernel
theorem dX5_twelfths_115 : decode cX5_twelfths 115 = .ok (.lconst 0, 1) := by decide +kernel
theorem dX5_twelfths_116 : decode cX5_twelfths 116 = .ok (.lcmp, 1) := by decide +kernel
theorem dX5_twelfths_117 : decode cX5_twelfths 117 = .ok (.ifCond .ge 9, 3) := by decide +kernel
theorem dX5_twelfths_120 : decode cX5_twelfths 120 = .ok (.ldc2_w 22, 3) := by decide +kernel
theorem dX5_twelfths_123 : decode cX5_twelfths 123 = .ok (.goto 4, 3) := by decide +kernel
theorem dX5_twelfths_126 : decode cX5_twelfths 126 = .ok (.lconst 0, 1) := by decide +kernel
theorem dX5_twelfths_127 : decode cX5_twelfths 127 = .ok (.lstore 18, 2) := by decide +kernel
theorem dX5_twelfths_129 : decode cX5_twelfths 129 = .ok (.lload 4, 2) := by decide +kernel
theorem dX5_twelfths_131 : decode cX5_twelfths 131 = .ok (.lload 8, 2) := by decide +kernel
theorem dX5_twelfths_133 : decode cX5_twelfths 133 = .ok (.lload 16, 2) := by decide +kernel
theorem dX5_twelfths_135 : decode cX5_twelfths 135 = .ok (.lload 12, 2) := by decide +kernel
theorem dX5_twelfths_137 : decode cX5_twelfths 137 = .ok (.lload 18, 2) := by decide +kernel
theorem dX5_twelfths_139 : decode cX5_twelfths 139 = .ok (.lsub, 1) := by decide +kernel
theorem dX5_twelfths_140 : decode cX5_twelfths 140 = .ok (.lmul, 1) := by decide +kernel
theorem dX5_twelfths_141 : decode cX5_twelfths 141 = .ok (.lload 10, 2) := by decide +kernel
theorem dX5_twelfths_143 : decode cX5_twelfths 143 = .ok (.lload 14, 2) := by decide +kernel
theorem dX5_twelfths_145 : decode cX5_twelfths 145 = .ok (.lmul, 1) := by decide +kernel
theorem dX5_twelfths_146 : decode cX5_twelfths 146 = .ok (.lsub, 1) := by decide +kernel
theorem dX5_twelfths_147 : decode cX5_twelfths 147 = .ok (.lmul, 1) := by decide +kernel
theorem dX5_twelfths_148 : decode cX5_twelfths 148 = .ok (.ladd, 1) := by decide +kernel
theorem dX5_twelfths_149 : decode cX5_twelfths 149 = .ok (.lreturn, 1) := by decide +kernel
set_option maxRecDepth 20000 in
theorem ggX5_floorSum_J9_floorDiv_f86c9 : GoodIn wsX5_floorSum wsJ9_floorDiv_f86c9 := goodIn_r _ [5] (by decide +kernel) (by decide +kernel)
set_option maxRecDepth 20000 in
theorem gX5_floorSum_J9_floorDiv_f86c9 : GoodIn wsX5_floorSum (va_wsS RX5 26 yJ9_floorDiv_f86c9 wsJ9_floorDiv_f86c9) := goodIn_app (goodIn_of _ (by decide +kernel)) ggX5_floorSum_J9_floorDiv_f86c9
set_option maxRecDepth 20000 in
theorem ggX5_floorSum_J9_floorMod_f86c9 : GoodIn wsX5_floorSum wsJ9_floorMod_f86c9 := goodIn_r _ [8] (by decide +kernel) (by decide +kernel)
set_option maxRecDepth 20000 in
theorem gX5_floorSum_J9_floorMod_f86c9 : GoodIn wsX5_floorSum (va_wsS RX5 19 yJ9_floorMod_f86c9 wsJ9_floorMod_f86c9) := goodIn_app (goodIn_of _ (by decide +kernel)) ggX5_floorSum_J9_floorMod_f86c9
theorem dX5_floorSum_0 : decode cX5_floorSum 0 = .ok (.lconst 0, 1) := by decide +kernel
theorem dX5_floorSum_1 : decode cX5_floorSum 1 = .ok (.lstore 8, 2) := by decide +kernel
theorem dX5_floorSum_3 : decode cX5_floorSum 3 = .ok (.lload_n 0, 1) := by decide +kernel
theorem dX5_floorSum_4 : decode cX5_floorSum 4 = .ok (.lstore 10, 2) := by decide +kernel
theorem dX5_floorSum_6 : decode cX5_floorSum 6 = .ok (.lload_n 2, 1) := by decide +kernel
theorem dX5_floorSum_7 : decode cX5_floorSum 7 = .ok (.lstore 12, 2) := by decide +kernel
theorem dX5_floorSum_9 : decode cX5_floorSum 9 = .ok (.lload 4, 2) := by decide +kernel
theorem dX5_floorSum_11 : decode cX5_floorSum 11 = .ok (.lstore 14, 2) := by decide +kernel
theorem dX5_floorSum_13 : decode cX5_floorSum 13 = .ok (.lload 6, 2) := by decide +kernel
theorem dX5_floorSum_15 : decode cX5_floorSum 15 = .ok (.lstore 16, 2) := by decide +kernel
theorem dX5_floorSum_17 : decode cX5_floorSum 17 = .ok (.iconst 0, 1) := by decide +kernel
theorem dX5_floorSum_18 : decode cX5_floorSum 18 = .ok (.istore 18, 2) := by decide +kernel
theorem dX5_floorSum_20 : decode cX5_floorSum 20 = .ok (.iload 18, 2) := by decide +kernel
theorem dX5_floorSum_22 : decode cX5_floorSum 22 = .ok (.sipush 200, 3) := by decide +kernel
theorem dX5_floorSum_25 : decode cX5_floorSum 25 = .ok (.if_icmp .ge 108, 3) := by decide +kernel
theorem dX5_floorSum_28 : decode cX5_floorSum 28 = .ok (.lload 14, 2) := by decide +kernel
theorem dX5_floorSum_30 : decode cX5_floorSum 30 = .ok (.lconst 0, 1) := by decide +kernel
theorem dX5_floorSum_31 : decode cX5_floorSum 31 = .ok (.lcmp, 1) := by decide +kernel
theorem dX5_floorSum_32 : decode cX5_floorSum 32 = .ok (.ifCond .le 101, 3) := by decide +kernel
theorem dX5_floorSum_35 : decode cX5_floorSum 35 = .ok (.lload 8, 2) := by decide +kernel
theorem dX5_floorSum_37 : decode cX5_floorSum 37 = .ok (.lload 16, 2) := by decide +kernel
theorem dX5_floorSum_39 : decode cX5_floorSum 39 = .ok (.lload 16, 2) := by decide +kernel
theorem dX5_floorSum_41 : decode cX5_floorSum 41 = .ok (.lconst 1, 1) := by decide +kernel
theorem dX5_floorSum_42 : decode cX5_floorSum 42 = .ok (.lsub, 1) := by decide +kernel
theorem dX5_floorSum_43 : decode cX5_floorSum 43 = .ok (.lmul, 1) := by decide +kernel
theorem dX5_floorSum_44 : decode cX5_floorSum 44 = .ok (.ldc2_w 24, 3) := by decide +kernel
theorem dX5_floorSum_47 : decode cX5_floorSum 47 = .ok (.ldiv, 1) := by decide +kernel
theorem dX5_floorSum_48 : decode cX5_floorSum 48 = .ok (.lload 10, 2) := by decide +kernel
theorem dX5_floorSum_50 : decode cX5_floorSum 50 = .ok (.lload 14, 2) := by decide +kernel
theorem dX5_floorSum_52 : decode cX5_floorSum 52 = .ok (.invokestatic 26, 3) := by decide +kernel
theorem dX5_floorSum_55 : decode cX5_floorSum 55 = .ok (.lmul, 1) := by decide +kernel
theorem dX5_floorSum_56 : decode cX5_floorSum 56 = .ok (.lload 16, 2) := by decide +kernel
theorem dX5_floorSum_58 : decode cX5_floorSum 58 = .ok (.lload 12, 2) := by decide +kernel
theorem dX5_floorSum_60 : decode cX5_floorSum 60 = .ok (.lload 14, 2) := by decide +kernel
theorem dX5_floorSum_62 : decode cX5_floorSum 62 = .ok (.invokestatic 26, 3) := by decide +kernel
theorem dX5_floorSum_65 : decode cX5_floorSum 65 = .ok (.lmul, 1) := by decide +kernel
theorem dX5_floorSum_66 : decode cX5_floorSum 66 = .ok (.ladd, 1) := by decide +kernel
theorem dX5_floorSum_67 : decode cX5_floorSum 67 = .ok (.ladd, 1) := by decide +kernel
theorem dX5_floorSum_68 : decode cX5_floorSum 68 = .ok (.lstore 8, 2) := by decide +kernel
theorem dX5_floorSum_70 : decode cX5_floorSum 70 = .ok (.lload 10, 2) := by decide +kernel
theorem dX5_floorSum_72 : decode cX5_floorSum 72 = .ok (.lload 14, 2) := by decide +kernel
theorem dX5_floorSum_74 : decode cX5_floorSum 74 = .ok (.invokestatic 19, 3) := by decide +kernel
theorem dX5_floorSum_77 : decode cX5_floorSum 77 = .ok (.lstore 19, 2) := by decide +kernel
theorem dX5_floorSum_79 : decode cX5_floorSum 79 = .ok (.lload 19, 2) := by decide +kernel
theorem dX5_floorSum_81 : decode cX5_floorSum 81 = .ok (.lload 16, 2) := by decide +kernel
theorem dX5_floorSum_83 : decode cX5_floorSum 83 = .ok (.lmul, 1) := by decide +kernel
theorem dX5_floorSum_84 : decode cX5_floorSum 84 = .ok (.lload 12, 2) := by decide +kernel
theorem dX5_floorSum_86 : decode cX5_floorSum 86 = .ok (.lload 14, 2) := by decide +kernel
theorem dX5_floorSum_88 : decode cX5_floorSum 88 = .ok (.invokestatic 19, 3) := by decide +kernel
theorem dX5_floorSum_91 : decode cX5_floorSum 91 = .ok (.ladd, 1) := by decide +kernel
theorem dX5_floorSum_92 : decode cX5_floorSum 92 = .ok (.lstore 21, 2) := by decide +kernel
theorem dX5_floorSum_94 : decode cX5_floorSum 94 = .ok (.lload 21, 2) := by decide +kernel
theorem dX5_floorSum_96 : decode cX5_floorSum 96 = .ok (.lload 14, 2) := by decide +kernel
theorem dX5_floorSum_98 : decode cX5_floorSum 98 = .ok (.lcmp, 1) := by decide +kernel
theorem dX5_floorSum_99 : decode cX5_floorSum 99 = .ok (.ifCond .ge 6, 3) := by decide +kernel
theorem dX5_floorSum_102 : decode cX5_floorSum 102 = .ok (.goto 31, 3) := by decide +kernel
theorem dX5_floorSum_105 : decode cX5_floorSum 105 = .ok (.lload 21, 2) := by decide +kernel
theorem dX5_floorSum_107 : decode cX5_floorSum 107 = .ok (.lload 14, 2) := by decide +kernel
theorem dX5_floorSum_109 : decode cX5_floorSum 109 = .ok (.ldiv, 1) := by decide +kernel
theorem dX5_floorSum_110 : decode cX5_floorSum 110 = .ok (.lstore 16, 2) := by decide +kernel
theorem dX5_floorSum_112 : decode cX5_floorSum 112 = .ok (.lload 21, 2) := by decide +kernel
theorem dX5_floorSum_114 : decode cX5_floorSum 114 = .ok (.lload 14, 2) := by decide +kernel
theorem dX5_floorSum_116 : decode cX5_floorSum 116 = .ok (.lrem, 1) := by decide +kernel
theorem dX5_floorSum_117 : decode cX5_floorSum 117 = .ok (.lstore 12, 2) := by decide +kernel
theorem dX5_floorSum_119 : decode cX5_floorSum 119 = .ok (.lload 14, 2) := by decide +kernel
theorem dX5_floorSum_121 : decode cX5_floorSum 121 = .ok (.lstore 10, 2) := by decide +kernel
theorem dX5_floorSum_123 : decode cX5_floorSum 123 = .ok (.lload 19, 2) := by decide +kernel
theorem dX5_floorSum_125 : decode cX5_floorSum 125 = .ok (.lstore 14, 2) := by decide +kernel
theorem dX5_floorSum_127 : decode cX5_floorSum 127 = .ok (.iinc 18 1, 3) := by decide +kernel
theorem dX5_floorSum_130 : decode cX5_floorSum 130 = .ok (.goto (-110), 3) := by decide +kernel
theorem dX5_floorSum_133 : decode cX5_floorSum 133 = .ok (.lload 8, 2) := by decide +kernel
theorem dX5_floorSum_135 : decode cX5_floorSum 135 = .ok (.lreturn, 1) := by decide +kernel
set_option maxRecDepth 20000 in
theorem ggX5_pointsBelow_X5_floorSum : GoodIn wsX5_pointsBelow wsX5_floorSum := goodIn_r _ [4, 5, 6, 7, 8, 9, 10, 11, 12] (by decide +kernel) (by decide +kernel)
set_option maxRecDepth 20000 in
theorem gX5_pointsBelow_X5_floorSum : GoodIn wsX5_pointsBelow (va_wsS RX5 29 yX5_floorSum wsX5_floorSum) := goodIn_app (goodIn_of _ (by decide +kernel)) ggX5_pointsBelow_X5_floorSum
theorem dX5_pointsBelow_0 : decode cX5_pointsBelow 0 = .ok (.lload_n 0, 1) := by decide +kernel
theorem dX5_pointsBelow_1 : decode cX5_pointsBelow 1 = .ok (.lconst 1, 1) := by decide +kernel
theorem dX5_pointsBelow_2 : decode cX5_pointsBelow 2 = .ok (.lcmp, 1) := by decide +kernel
theorem dX5_pointsBelow_3 : decode cX5_pointsBelow 3 = .ok (.ifCond .lt 16, 3) := by decide +kernel
theorem dX5_pointsBelow_6 : decode cX5_pointsBelow 6 = .ok (.lload_n 2, 1) := by decide +kernel
theorem dX5_pointsBelow_7 : decode cX5_pointsBelow 7 = .ok (.lconst 1, 1) := by decide +kernel
theorem dX5_pointsBelow_8 : decode cX5_pointsBelow 8 = .ok (.lcmp, 1) := by decide +kernel
theorem dX5_pointsBelow_9 : decode cX5_pointsBelow 9 = .ok (.ifCond .lt 10, 3) := by decide +kernel
theorem dX5_pointsBelow_12 : decode cX5_pointsBelow 12 = .ok (.lload 4, 2) := by decide +kernel
theorem dX5_pointsBelow_14 : decode cX5_pointsBelow 14 = .ok (.lconst 0, 1) := by decide +kernel
theorem dX5_pointsBelow_15 : decode cX5_pointsBelow 15 = .ok (.lcmp, 1) := by decide +kernel
theorem dX5_pointsBelow_16 : decode cX5_pointsBelow 16 = .ok (.ifCond .ge 5, 3) := by decide +kernel
theorem dX5_pointsBelow_19 : decode cX5_pointsBelow 19 = .ok (.lconst 0, 1) := by decide +kernel
theorem dX5_pointsBelow_20 : decode cX5_pointsBelow 20 = .ok (.lreturn, 1) := by decide +kernel
theorem dX5_pointsBelow_21 : decode cX5_pointsBelow 21 = .ok (.lload 4, 2) := by decide +kernel
theorem dX5_pointsBelow_23 : decode cX5_pointsBelow 23 = .ok (.lload_n 0, 1) := by decide +kernel
theorem dX5_pointsBelow_24 : decode cX5_pointsBelow 24 = .ok (.ldiv, 1) := by decide +kernel
theorem dX5_pointsBelow_25 : decode cX5_pointsBelow 25 = .ok (.lconst 1, 1) := by decide +kernel
theorem dX5_pointsBelow_26 : decode cX5_pointsBelow 26 = .ok (.ladd, 1) := by decide +kernel
theorem dX5_pointsBelow_27 : decode cX5_pointsBelow 27 = .ok (.lstore 6, 2) := by decide +kernel
theorem dX5_pointsBelow_29 : decode cX5_pointsBelow 29 = .ok (.lload 6, 2) := by decide +kernel
theorem dX5_pointsBelow_31 : decode cX5_pointsBelow 31 = .ok (.lload_n 0, 1) := by decide +kernel
theorem dX5_pointsBelow_32 : decode cX5_pointsBelow 32 = .ok (.lload 4, 2) := by decide +kernel
theorem dX5_pointsBelow_34 : decode cX5_pointsBelow 34 = .ok (.lload_n 0, 1) := by decide +kernel
theorem dX5_pointsBelow_35 : decode cX5_pointsBelow 35 = .ok (.lrem, 1) := by decide +kernel
theorem dX5_pointsBelow_36 : decode cX5_pointsBelow 36 = .ok (.lload_n 2, 1) := by decide +kernel
theorem dX5_pointsBelow_37 : decode cX5_pointsBelow 37 = .ok (.lload 6, 2) := by decide +kernel
theorem dX5_pointsBelow_39 : decode cX5_pointsBelow 39 = .ok (.invokestatic 29, 3) := by decide +kernel
theorem dX5_pointsBelow_42 : decode cX5_pointsBelow 42 = .ok (.ladd, 1) := by decide +kernel
theorem dX5_pointsBelow_43 : decode cX5_pointsBelow 43 = .ok (.lreturn, 1) := by decide +kernel
set_option maxRecDepth 20000 in
theorem ggX5_unlike_X5_sink : GoodIn wsX5_unlike wsX5_sink := goodIn_r _ [4] (by decide +kernel) (by decide +kernel)
set_option maxRecDepth 20000 in
theorem gX5_unlike_X5_sink : GoodIn wsX5_unlike (va_wsS RX5 35 yX5_sink wsX5_sink) := goodIn_app (goodIn_of _ (by decide +kernel)) ggX5_unlike_X5_sink
theorem dX5_unlike_0 : decode cX5_unlike 0 = .ok (.iload_n 1, 1) := by decide +kernel
theorem dX5_unlike_1 : decode cX5_unlike 1 = .ok (.iconst 1, 1) := by decide +kernel
theorem dX5_unlike_2 : decode cX5_unlike 2 = .ok (.if_icmp .lt 9, 3) := by decide +kernel
theorem dX5_unlike_5 : decode cX5_unlike 5 = .ok (.iload_n 1, 1) := by decide +kernel
theorem dX5_unlike_6 : decode cX5_unlike 6 = .ok (.aload_n 0, 1) := by decide +kernel
theorem dX5_unlike_7 : decode cX5_unlike 7 = .ok (.arraylength, 1) := by decide +kernel
theorem dX5_unlike_8 : decode cX5_unlike 8 = .ok (.if_icmp .le 5, 3) := by decide +kernel
theorem dX5_unlike_11 : decode cX5_unlike 11 = .ok (.iconst 0, 1) := by decide +kernel
theorem dX5_unlike_12 : decode cX5_unlike 12 = .ok (.ireturn, 1) := by decide +kernel
theorem dX5_unlike_13 : decode cX5_unlike 13 = .ok (.iload_n 1, 1) := by decide +kernel
theorem dX5_unlike_14 : decode cX5_unlike 14 = .ok (.iconst 2, 1) := by decide +kernel
theorem dX5_unlike_15 : decode cX5_unlike 15 = .ok (.idiv, 1) := by decide +kernel
theorem dX5_unlike_16 : decode cX5_unlike 16 = .ok (.istore_n 2, 1) := by decide +kernel
theorem dX5_unlike_17 : decode cX5_unlike 17 = .ok (.iload_n 2, 1) := by decide +kernel
theorem dX5_unlike_18 : decode cX5_unlike 18 = .ok (.ifCond .le 29, 3) := by decide +kernel
theorem dX5_unlike_21 : decode cX5_unlike 21 = .ok (.iload_n 2, 1) := by decide +kernel
theorem dX5_unlike_22 : decode cX5_unlike 22 = .ok (.istore_n 3, 1) := by decide +kernel
theorem dX5_unlike_23 : decode cX5_unlike 23 = .ok (.iload_n 3, 1) := by decide +kernel
theorem dX5_unlike_24 : decode cX5_unlike 24 = .ok (.iload_n 1, 1) := by decide +kernel
theorem dX5_unlike_25 : decode cX5_unlike 25 = .ok (.if_icmp .ge 15, 3) := by decide +kernel
theorem dX5_unlike_28 : decode cX5_unlike 28 = .ok (.aload_n 0, 1) := by decide +kernel
theorem dX5_unlike_29 : decode cX5_unlike 29 = .ok (.iload_n 3, 1) := by decide +kernel
theorem dX5_unlike_30 : decode cX5_unlike 30 = .ok (.iload_n 2, 1) := by decide +kernel
theorem dX5_unlike_31 : decode cX5_unlike 31 = .ok (.invokestatic 35, 3) := by decide +kernel
theorem dX5_unlike_34 : decode cX5_unlike 34 = .ok (.iinc 3 1, 3) := by decide +kernel
theorem dX5_unlike_37 : decode cX5_unlike 37 = .ok (.goto (-14), 3) := by decide +kernel
theorem dX5_unlike_40 : decode cX5_unlike 40 = .ok (.iload_n 2, 1) := by decide +kernel
theorem dX5_unlike_41 : decode cX5_unlike 41 = .ok (.iconst 2, 1) := by decide +kernel
theorem dX5_unlike_42 : decode cX5_unlike 42 = .ok (.idiv, 1) := by decide +kernel
theorem dX5_unlike_43 : decode cX5_unlike 43 = .ok (.istore_n 2, 1) := by decide +kernel
theorem dX5_unlike_44 : decode cX5_unlike 44 = .ok (.goto (-27), 3) := by decide +kernel
theorem dX5_unlike_47 : decode cX5_unlike 47 = .ok (.iconst 1, 1) := by decide +kernel
theorem dX5_unlike_48 : decode cX5_unlike 48 = .ok (.istore_n 2, 1) := by decide +kernel
theorem dX5_unlike_49 : decode cX5_unlike 49 = .ok (.iconst 1, 1) := by decide +kernel
theorem dX5_unlike_50 : decode cX5_unlike 50 = .ok (.istore_n 3, 1) := by decide +kernel
theorem dX5_unlike_51 : decode cX5_unlike 51 = .ok (.iload_n 3, 1) := by decide +kernel
theorem dX5_unlike_52 : decode cX5_unlike 52 = .ok (.iload_n 1, 1) := by decide +kernel
theorem dX5_unlike_53 : decode cX5_unlike 53 = .ok (.if_icmp .ge 24, 3) := by decide +kernel
theorem dX5_unlike_56 : decode cX5_unlike 56 = .ok (.aload_n 0, 1) := by decide +kernel
theorem dX5_unlike_57 : decode cX5_unlike 57 = .ok (.iload_n 3, 1) := by decide +kernel
theorem dX5_unlike_58 : decode cX5_unlike 58 = .ok (.laload, 1) := by decide +kernel
theorem dX5_unlike_59 : decode cX5_unlike 59 = .ok (.aload_n 0, 1) := by decide +kernel
theorem dX5_unlike_60 : decode cX5_unlike 60 = .ok (.iload_n 3, 1) := by decide +kernel
theorem dX5_unlike_61 : decode cX5_unlike 61 = .ok (.iconst 1, 1) := by decide +kernel
theorem dX5_unlike_62 : decode cX5_unlike 62 = .ok (.isub, 1) := by decide +kernel
theorem dX5_unlike_63 : decode cX5_unlike 63 = .ok (.laload, 1) := by decide +kernel
theorem dX5_unlike_64 : decode cX5_unlike 64 = .ok (.lcmp, 1) := by decide +kernel
theorem dX5_unlike_65 : decode cX5_unlike 65 = .ok (.ifCond .eq 6, 3) := by decide +kernel
theorem dX5_unlike_68 : decode cX5_unlike 68 = .ok (.iinc 2 1, 3) := by decide +kernel
theorem dX5_unlike_71 : decode cX5_unlike 71 = .ok (.iinc 3 1, 3) := by decide +kernel
theorem dX5_unlike_74 : decode cX5_unlike 74 = .ok (.goto (-23), 3) := by decide +kernel
theorem dX5_unlike_77 : decode cX5_unlike 77 = .ok (.iload_n 2, 1) := by decide +kernel
theorem dX5_unlike_78 : decode cX5_unlike 78 = .ok (.ireturn, 1) := by decide +kernel
theorem dX5_sink_0 : decode cX5_sink 0 = .ok (.iload_n 2, 1) := by decide +kernel
theorem dX5_sink_1 : decode cX5_sink 1 = .ok (.iconst 1, 1) := by decide +kernel
theorem dX5_sink_2 : decode cX5_sink 2 = .ok (.if_icmp .lt 13, 3) := by decide +kernel
theorem dX5_sink_5 : decode cX5_sink 5 = .ok (.iload_n 1, 1) := by decide +kernel
theorem dX5_sink_6 : decode cX5_sink 6 = .ok (.ifCond .lt 9, 3) := by decide +kernel
theorem dX5_sink_9 : decode cX5_sink 9 = .ok (.iload_n 1, 1) := by decide +kernel
theorem dX5_sink_10 : decode cX5_sink 10 = .ok (.aload_n 0, 1) := by decide +kernel
theorem dX5_sink_11 : decode cX5_sink 11 = .ok (.arraylength, 1) := by decide +kernel
theorem dX5_sink_12 : decode cX5_sink 12 = .ok (.if_icmp .lt 4, 3) := by decide +kernel
theorem dX5_sink_15 : decode cX5_sink 15 = .ok (.return_, 1) := by decide +kernel
theorem dX5_sink_16 : decode cX5_sink 16 = .ok (.aload_n 0, 1) := by decide +kernel
theorem dX5_sink_17 : decode cX5_sink 17 = .ok (.iload_n 1, 1) := by decide +kernel
theorem dX5_sink_18 : decode cX5_sink 18 = .ok (.laload, 1) := by decide +kernel
theorem dX5_sink_19 : decode cX5_sink 19 = .ok (.lstore_n 3, 1) := by decide +kernel
theorem dX5_sink_20 : decode cX5_sink 20 = .ok (.iload_n 1, 1) := by decide +kernel
theorem dX5_sink_21 : decode cX5_sink 21 = .ok (.istore 5, 2) := by decide +kernel
theorem dX5_sink_23 : decode cX5_sink 23 = .ok (.iload 5, 2) := by decide +kernel
theorem dX5_sink_25 : decode cX5_sink 25 = .ok (.iload_n 2, 1) := by decide +kernel
theorem dX5_sink_26 : decode cX5_sink 26 = .ok (.if_icmp .lt 33, 3) := by decide +kernel
theorem dX5_sink_29 : decode cX5_sink 29 = .ok (.aload_n 0, 1) := by decide +kernel
theorem dX5_sink_30 : decode cX5_sink 30 = .ok (.iload 5, 2) := by decide +kernel
theorem dX5_sink_32 : decode cX5_sink 32 = .ok (.iload_n 2, 1) := by decide +kernel
theorem dX5_sink_33 : decode cX5_sink 33 = .ok (.isub, 1) := by decide +kernel
theorem dX5_sink_34 : decode cX5_sink 34 = .ok (.laload, 1) := by decide +kernel
theorem dX5_sink_35 : decode cX5_sink 35 = .ok (.lload_n 3, 1) := by decide +kernel
theorem dX5_sink_36 : decode cX5_sink 36 = .ok (.lcmp, 1) := by decide +kernel
theorem dX5_sink_37 : decode cX5_sink 37 = .ok (.ifCond .le 22, 3) := by decide +kernel
theorem dX5_sink_40 : decode cX5_sink 40 = .ok (.aload_n 0, 1) := by decide +kernel
theorem dX5_sink_41 : decode cX5_sink 41 = .ok (.iload 5, 2) := by decide +kernel
theorem dX5_sink_43 : decode cX5_sink 43 = .ok (.aload_n 0, 1) := by decide +kernel
theorem dX5_sink_44 : decode cX5_sink 44 = .ok (.iload 5, 2) := by decide +kernel
theorem dX5_sink_46 : decode cX5_sink 46 = .ok (.iload_n 2, 1) := by decide +kernel
theorem dX5_sink_47 : decode cX5_sink 47 = .ok (.isub, 1) := by decide +kernel
theorem dX5_sink_48 : decode cX5_sink 48 = .ok (.laload, 1) := by decide +kernel
theorem dX5_sink_49 : decode cX5_sink 49 = .ok (.lastore, 1) := by decide +kernel
theorem dX5_sink_50 : decode cX5_sink 50 = .ok (.iload 5, 2) := by decide +kernel
theorem dX5_sink_52 : decode cX5_sink 52 = .ok (.iload_n 2, 1) := by decide +kernel
theorem dX5_sink_53 : decode cX5_sink 53 = .ok (.isub, 1) := by decide +kernel
theorem dX5_sink_54 : decode cX5_sink 54 = .ok (.istore 5, 2) := by decide +kernel
theorem dX5_sink_56 : decode cX5_sink 56 = .ok (.goto (-33), 3) := by decide +kernel
theorem dX5_sink_59 : decode cX5_sink 59 = .ok (.aload_n 0, 1) := by decide +kernel
theorem dX5_sink_60 : decode cX5_sink 60 = .ok (.iload 5, 2) := by decide +kernel
theorem dX5_sink_62 : decode cX5_sink 62 = .ok (.lload_n 3, 1) := by decide +kernel
theorem dX5_sink_63 : decode cX5_sink 63 = .ok (.lastore, 1) := by decide +kernel
theorem dX5_sink_64 : decode cX5_sink 64 = .ok (.return_, 1) := by decide +kernel
set_option maxRecDepth 20000 in
theorem ggX6_init_X2_init : GoodIn wsX6_init wsX2_init := goodIn_r _ [29, 30, 2, 3, 31, 32, 33, 34, 87, 88, 89, 90] (by decide +kernel) (by decide +kernel)
set_option maxRecDepth 20000 in
theorem gX6_init_X2_init : GoodIn wsX6_init (wsX2_init) := ggX6_init_X2_init
set_option maxRecDepth 20000 in
theorem ggX6_init_X0_init : GoodIn wsX6_init wsX0_init := goodIn_r _ [37, 38, 2, 3, 39, 40, 12, 41, 42, 100, 101, 102] (by decide +kernel) (by decide +kernel)
set_option maxRecDepth 20000 in
theorem gX6_init_X0_init : GoodIn wsX6_init (wsX0_init) := ggX6_init_X0_init
set_option maxRecDepth 20000 in
theorem ggX6_init_X3_init : GoodIn wsX6_init wsX3_init := goodIn_r _ [45, 46, 2, 3, 47, 48, 49, 50, 51, 52, 22, 23, 53, 54, 55, 56, 57, 58, 59, 60, 61, 62, 63, 39, 64, 65, 66, 67, 68, 69, 70, 71, 72, 73, 74, 75, 76, 77, 78, 79, 80, 81, 82, 83, 84, 85, 113, 114, 115, 116, 117, 118, 103, 104, 105, 106, 107, 108, 109, 110, 111, 112] (by decide +kernel) (by decide +kernel)
set_option maxRecDepth 20000 in
theorem gX6_init_X3_init : GoodIn wsX6_init (wsX3_init) := ggX6_init_X3_init
set_option maxRecDepth 20000 in
theorem ggX6_init_X1_init : GoodIn wsX6_init wsX1_init := goodIn_r _ [71, 72, 2, 3, 73, 74, 75, 76, 77, 78, 79, 80, 81, 82, 83, 84, 85, 111, 112] (by decide +kernel) (by decide +kernel)
set_option maxRecDepth 20000 in
theorem gX6_init_X1_init : GoodIn wsX6_init (wsX1_init) := ggX6_init_X1_init
theorem dX6_init_0 : decode cX6_init 0 = .ok (.aload_n 0, 1) := by decide +kernel
theorem dX6_init_1 : decode cX6_init 1 = .ok (.invokespecial 1, 3) := by decide +kernel
theorem dX6_init_4 : decode cX6_init 4 = .ok (.aload_n 0, 1) := by decide +kernel
theorem dX6_init_5 : decode cX6_init 5 = .ok (.new 7, 3) := by decide +kernel
theorem dX6_init_8 : decode cX6_init 8 = .ok (.dup, 1) := by decide +kernel
theorem dX6_init_9 : decode cX6_init 9 = .ok (.invokespecial 9, 3) := by decide +kernel
theorem dX6_init_12 : decode cX6_init 12 = .ok (.putfield 10, 3) := by decide +kernel
theorem dX6_init_15 : decode cX6_init 15 = .ok (.aload_n 0, 1) := by decide +kernel
theorem dX6_init_16 : decode cX6_init 16 = .ok (.new 16, 3) := by decide +kernel
theorem dX6_init_19 : decode cX6_init 19 = .ok (.dup, 1) := by decide +kernel
theorem dX6_init_20 : decode cX6_init 20 = .ok (.invokespecial 18, 3) := by decide +kernel
theorem dX6_init_23 : decode cX6_init 23 = .ok (.putfield 19, 3) := by decide +kernel
theorem dX6_init_26 : decode cX6_init 26 = .ok (.aload_n 0, 1) := by decide +kernel
theorem dX6_init_27 : decode cX6_init 27 = .ok (.sipush 500, 3) := by decide +kernel
theorem dX6_init_30 : decode cX6_init 30 = .ok (.newarray .long, 2) := by decide +kernel
theorem dX6_init_32 : decode cX6_init 32 = .ok (.putfield 23, 3) := by decide +kernel
theorem dX6_init_35 : decode cX6_init 35 = .ok (.aload_n 0, 1) := by decide +kernel
theorem dX6_init_36 : decode cX6_init 36 = .ok (.sipush 300, 3) := by decide +kernel
theorem dX6_init_39 : decode cX6_init 39 = .ok (.newarray .byte, 2) := by decide +kernel
theorem dX6_init_41 : decode cX6_init 41 = .ok (.putfield 27, 3) := by decide +kernel
theorem dX6_init_44 : decode cX6_init 44 = .ok (.aload_n 0, 1) := by decide +kernel
theorem dX6_init_45 : decode cX6_init 45 = .ok (.new 31, 3) := by decide +kernel
theorem dX6_init_48 : decode cX6_init 48 = .ok (.dup, 1) := by decide +kernel
theorem dX6_init_49 : decode cX6_init 49 = .ok (.aload_n 0, 1) := by decide +kernel
theorem dX6_init_50 : decode cX6_init 50 = .ok (.getfield 27, 3) := by decide +kernel
theorem dX6_init_53 : decode cX6_init 53 = .ok (.aload_n 0, 1) := by decide +kernel
theorem dX6_init_54 : decode cX6_init 54 = .ok (.getfield 10, 3) := by decide +kernel
theorem dX6_init_57 : decode cX6_init 57 = .ok (.invokespecial 33, 3) := by decide +kernel
theorem dX6_init_60 : decode cX6_init 60 = .ok (.putfield 36, 3) := by decide +kernel
theorem dX6_init_63 : decode cX6_init 63 = .ok (.aload_n 0, 1) := by decide +kernel
theorem dX6_init_64 : decode cX6_init 64 = .ok (.iconst 0, 1) := by decide +kernel
theorem dX6_init_65 : decode cX6_init 65 = .ok (.putfield 40, 3) := by decide +kernel
theorem dX6_init_68 : decode cX6_init 68 = .ok (.aload_n 0, 1) := by decide +kernel
theorem dX6_init_69 : decode cX6_init 69 = .ok (.new 44, 3) := by decide +kernel
theorem dX6_init_72 : decode cX6_init 72 = .ok (.dup, 1) := by decide +kernel
theorem dX6_init_73 : decode cX6_init 73 = .ok (.lconst 0, 1) := by decide +kernel
theorem dX6_init_74 : decode cX6_init 74 = .ok (.lconst 1, 1) := by decide +kernel
theorem dX6_init_75 : decode cX6_init 75 = .ok (.invokespecial 46, 3) := by decide +kernel
theorem dX6_init_78 : decode cX6_init 78 = .ok (.putfield 49, 3) := by decide +kernel
theorem dX6_init_81 : decode cX6_init 81 = .ok (.aload_n 0, 1) := by decide +kernel
theorem dX6_init_82 : decode cX6_init 82 = .ok (.iconst 0, 1) := by decide +kernel
theorem dX6_init_83 : decode cX6_init 83 = .ok (.putfield 53, 3) := by decide +kernel
theorem dX6_init_86 : decode cX6_init 86 = .ok (.aload_n 0, 1) := by decide +kernel
theorem dX6_init_87 : decode cX6_init 87 = .ok (.iconst 0, 1) := by decide +kernel
theorem dX6_init_88 : decode cX6_init 88 = .ok (.putfield 56, 3) := by decide +kernel
theorem dX6_init_91 : decode cX6_init 91 = .ok (.return_, 1) := by decide +kernel
set_option maxRecDepth 20000 in
theorem ggX6_saw_X6_lies : GoodIn wsX6_saw wsX6_lies := goodIn_r _ [14] (by decide +kernel) (by decide +kernel)
set_option maxRecDepth 20000 in
theorem gX6_saw_X6_lies : GoodIn wsX6_saw (va_wsS RX6 63 yX6_lies wsX6_lies) := goodIn_app (goodIn_of _ (by decide +kernel)) ggX6_saw_X6_lies
set_option maxRecDepth 20000 in
theorem ggX6_saw_X1_init : GoodIn wsX6_saw wsX1_init := goodIn_r _ [17, 18, 19, 20, 21, 22, 23, 24, 25, 26, 27, 28, 9, 29, 30, 31, 32, 48, 49] (by decide +kernel) (by decide +kernel)
set_option maxRecDepth 20000 in
theorem gX6_saw_X1_init : GoodIn wsX6_saw (wsX1_init) := ggX6_saw_X1_init
set_option maxRecDepth 20000 in
theorem ggX6_saw_X1_sawOf : GoodIn wsX6_saw wsX1_sawOf := goodIn_r _ [36, 22, 37, 5, 6, 38, 21, 39, 16, 17, 18, 19, 20, 23, 24, 25, 26, 27, 28, 9, 29, 30, 31, 32, 40, 41, 42, 43, 48, 49] (by decide +kernel) (by decide +kernel)
set_option maxRecDepth 20000 in
theorem gX6_saw_X1_sawOf : GoodIn wsX6_saw (wsV RX6 75 RX1 yX1_sawOf wsX1_sawOf) := goodIn_app (goodIn_of _ (by decide +kernel)) ggX6_saw_X1_sawOf
set_option maxRecDepth 20000 in
theorem ggX6_saw_X1_part : GoodIn wsX6_saw wsX1_part := goodIn_r _ [47, 22, 21, 48, 49] (by decide +kernel) (by decide +kernel)
set_option maxRecDepth 20000 in
theorem gX6_saw_X1_part : GoodIn wsX6_saw (wsV RX6 79 RX1 yX1_part wsX1_part) := goodIn_app (goodIn_of _ (by decide +kernel)) ggX6_saw_X1_part
theorem dX6_saw_0 : decode cX6_saw 0 = .ok (.iload_n 1, 1) := by decide +kernel
theorem dX6_saw_1 : decode cX6_saw 1 = .ok (.i2l, 1) := by decide +kernel
theorem dX6_saw_2 : decode cX6_saw 2 = .ok (.ldc2_w 59, 3) := by decide +kernel
theorem dX6_saw_5 : decode cX6_saw 5 = .ok (.ldc2_w 61, 3) := by decide +kernel
theorem dX6_saw_8 : decode cX6_saw 8 = .ok (.invokestatic 63, 3) := by decide +kernel
theorem dX6_saw_11 : decode cX6_saw 11 = .ok (.ifCond .eq 21, 3) := by decide +kernel
theorem dX6_saw_14 : decode cX6_saw 14 = .ok (.iload_n 2, 1) := by decide +kernel
theorem dX6_saw_15 : decode cX6_saw 15 = .ok (.i2l, 1) := by decide +kernel
theorem dX6_saw_16 : decode cX6_saw 16 = .ok (.ldc2_w 59, 3) := by decide +kernel
theorem dX6_saw_19 : decode cX6_saw 19 = .ok (.ldc2_w 61, 3) := by decide +kernel
theorem dX6_saw_22 : decode cX6_saw 22 = .ok (.invokestatic 63, 3) := by decide +kernel
theorem dX6_saw_25 : decode cX6_saw 25 = .ok (.ifCond .eq 7, 3) := by decide +kernel
theorem dX6_saw_28 : decode cX6_saw 28 = .ok (.iload_n 2, 1) := by decide +kernel
theorem dX6_saw_29 : decode cX6_saw 29 = .ok (.ifCond .ne 7, 3) := by decide +kernel
theorem dX6_saw_32 : decode cX6_saw 32 = .ok (.ldc2_w 67, 3) := by decide +kernel
theorem dX6_saw_35 : decode cX6_saw 35 = .ok (.lreturn, 1) := by decide +kernel
theorem dX6_saw_36 : decode cX6_saw 36 = .ok (.new 44, 3) := by decide +kernel
theorem dX6_saw_39 : decode cX6_saw 39 = .ok (.dup, 1) := by decide +kernel
theorem dX6_saw_40 : decode cX6_saw 40 = .ok (.iload_n 2, 1) := by decide +kernel
theorem dX6_saw_41 : decode cX6_saw 41 = .ok (.ifCond .ge 9, 3) := by decide +kernel
theorem dX6_saw_44 : decode cX6_saw 44 = .ok (.iload_n 1, 1) := by decide +kernel
theorem dX6_saw_45 : decode cX6_saw 45 = .ok (.ineg, 1) := by decide +kernel
theorem dX6_saw_46 : decode cX6_saw 46 = .ok (.i2l, 1) := by decide +kernel
theorem dX6_saw_47 : decode cX6_saw 47 = .ok (.goto 5, 3) := by decide +kernel
theorem dX6_saw_50 : decode cX6_saw 50 = .ok (.iload_n 1, 1) := by decide +kernel
theorem dX6_saw_51 : decode cX6_saw 51 = .ok (.i2l, 1) := by decide +kernel
theorem dX6_saw_52 : decode cX6_saw 52 = .ok (.iload_n 2, 1) := by decide +kernel
theorem dX6_saw_53 : decode cX6_saw 53 = .ok (.invokestatic 69, 3) := by decide +kernel
theorem dX6_saw_56 : decode cX6_saw 56 = .ok (.i2l, 1) := by decide +kernel
theorem dX6_saw_57 : decode cX6_saw 57 = .ok (.invokespecial 46, 3) := by decide +kernel
theorem dX6_saw_60 : decode cX6_saw 60 = .ok (.invokevirtual 75, 3) := by decide +kernel
theorem dX6_saw_63 : decode cX6_saw 63 = .ok (.iload_n 3, 1) := by decide +kernel
theorem dX6_saw_64 : decode cX6_saw 64 = .ok (.invokevirtual 79, 3) := by decide +kernel
theorem dX6_saw_67 : decode cX6_saw 67 = .ok (.lreturn, 1) := by decide +kernel
set_option maxRecDepth 20000 in
theorem ggX6_sum_X6_lies : GoodIn wsX6_sum wsX6_lies := goodIn_r _ [6] (by decide +kernel) (by decide +kernel)
set_option maxRecDepth 20000 in
theorem gX6_sum_X6_lies : GoodIn wsX6_sum (va_wsS RX6 63 yX6_lies wsX6_lies) := goodIn_app (goodIn_of _ (by decide +kernel)) ggX6_sum_X6_lies
set_option maxRecDepth 20000 in
theorem ggX6_sum_X1_ofSawSum : GoodIn wsX6_sum wsX1_ofSawSum := goodIn_r _ [10, 11, 12, 9, 13, 14, 15, 16, 17, 18, 19, 20, 21, 22, 23, 24, 25, 26, 27, 28, 29, 30, 31, 32, 33, 34, 35, 36, 37, 38, 39, 40, 45, 46] (by decide +kernel) (by decide +kernel)
set_option maxRecDepth 20000 in
theorem gX6_sum_X1_ofSawSum : GoodIn wsX6_sum (va_wsS RX6 83 yX1_ofSawSum wsX1_ofSawSum) := goodIn_app (goodIn_of _ (by decide +kernel)) ggX6_sum_X1_ofSawSum
set_option maxRecDepth 20000 in
theorem ggX6_sum_X1_part : GoodIn wsX6_sum wsX1_part := goodIn_r _ [44, 30, 29, 45, 46] (by decide +kernel) (by decide +kernel)
set_option maxRecDepth 20000 in
theorem gX6_sum_X1_part : GoodIn wsX6_sum (wsV RX6 79 RX1 yX1_part wsX1_part) := goodIn_app (goodIn_of _ (by decide +kernel)) ggX6_sum_X1_part
theorem dX6_sum_0 : decode cX6_sum 0 = .ok (.iload_n 2, 1) := by decide +kernel
theorem dX6_sum_1 : decode cX6_sum 1 = .ok (.i2l, 1) := by decide +kernel
theorem dX6_sum_2 : decode cX6_sum 2 = .ok (.lconst 1, 1) := by decide +kernel
theorem dX6_sum_3 : decode cX6_sum 3 = .ok (.ldc2_w 61, 3) := by decide +kernel
theorem dX6_sum_6 : decode cX6_sum 6 = .ok (.invokestatic 63, 3) := by decide +kernel
theorem dX6_sum_9 : decode cX6_sum 9 = .ok (.ifCond .ne 7, 3) := by decide +kernel
theorem dX6_sum_12 : decode cX6_sum 12 = .ok (.ldc2_w 67, 3) := by decide +kernel
theorem dX6_sum_15 : decode cX6_sum 15 = .ok (.lreturn, 1) := by decide +kernel
theorem dX6_sum_16 : decode cX6_sum 16 = .ok (.iload_n 1, 1) := by decide +kernel
theorem dX6_sum_17 : decode cX6_sum 17 = .ok (.i2l, 1) := by decide +kernel
theorem dX6_sum_18 : decode cX6_sum 18 = .ok (.iload_n 2, 1) := by decide +kernel
theorem dX6_sum_19 : decode cX6_sum 19 = .ok (.i2l, 1) := by decide +kernel
theorem dX6_sum_20 : decode cX6_sum 20 = .ok (.invokestatic 83, 3) := by decide +kernel
theorem dX6_sum_23 : decode cX6_sum 23 = .ok (.iload_n 3, 1) := by decide +kernel
theorem dX6_sum_24 : decode cX6_sum 24 = .ok (.invokevirtual 79, 3) := by decide +kernel
theorem dX6_sum_27 : decode cX6_sum 27 = .ok (.lreturn, 1) := by decide +kernel
set_option maxRecDepth 20000 in
theorem ggX6_both_X6_lies : GoodIn wsX6_both wsX6_lies := goodIn_r _ [10] (by decide +kernel) (by decide +kernel)
set_option maxRecDepth 20000 in
theorem gX6_both_X6_lies : GoodIn wsX6_both (va_wsS RX6 63 yX6_lies wsX6_lies) := goodIn_app (goodIn_of _ (by decide +kernel)) ggX6_both_X6_lies
set_option maxRecDepth 20000 in
theorem ggX6_both_X5_twelfths : GoodIn wsX6_both wsX5_twelfths := goodIn_r _ [14, 15, 16, 17, 18, 19] (by decide +kernel) (by decide +kernel)
set_option maxRecDepth 20000 in
theorem gX6_both_X5_twelfths : GoodIn wsX6_both (va_wsS RX6 89 yX5_twelfths wsX5_twelfths) := goodIn_app (goodIn_of _ (by decide +kernel)) ggX6_both_X5_twelfths
set_option maxRecDepth 20000 in
theorem ggX6_both_X1_init : GoodIn wsX6_both wsX1_init := goodIn_r _ [22, 23, 24, 25, 26, 27, 28, 29, 13, 30, 31, 32, 33, 34, 35, 36, 37, 42, 43] (by decide +kernel) (by decide +kernel)
set_option maxRecDepth 20000 in
theorem gX6_both_X1_init : GoodIn wsX6_both (wsX1_init) := ggX6_both_X1_init
set_option maxRecDepth 20000 in
theorem ggX6_both_X1_part : GoodIn wsX6_both wsX1_part := goodIn_r _ [41, 27, 26, 42, 43] (by decide +kernel) (by decide +kernel)
set_option maxRecDepth 20000 in
theorem gX6_both_X1_part : GoodIn wsX6_both (wsV RX6 79 RX1 yX1_part wsX1_part) := goodIn_app (goodIn_of _ (by decide +kernel)) ggX6_both_X1_part
theorem dX6_both_0 : decode cX6_both 0 = .ok (.iload_n 1, 1) := by decide +kernel
theorem dX6_both_1 : decode cX6_both 1 = .ok (.i2l, 1) := by decide +kernel
theorem dX6_both_2 : decode cX6_both 2 = .ok (.lconst 1, 1) := by decide +kernel
theorem dX6_both_3 : decode cX6_both 3 = .ok (.ldc2_w 87, 3) := by decide +kernel
theorem dX6_both_6 : decode cX6_both 6 = .ok (.invokestatic 63, 3) := by decide +kernel
theorem dX6_both_9 : decode cX6_both 9 = .ok (.ifCond .eq 15, 3) := by decide +kernel
theorem dX6_both_12 : decode cX6_both 12 = .ok (.iload_n 2, 1) := by decide +kernel
theorem dX6_both_13 : decode cX6_both 13 = .ok (.i2l, 1) := by decide +kernel
theorem dX6_both_14 : decode cX6_both 14 = .ok (.lconst 1, 1) := by decide +kernel
theorem dX6_both_15 : decode cX6_both 15 = .ok (.ldc2_w 87, 3) := by decide +kernel
theorem dX6_both_18 : decode cX6_both 18 = .ok (.invokestatic 63, 3) := by decide +kernel
theorem dX6_both_21 : decode cX6_both 21 = .ok (.ifCond .ne 7, 3) := by decide +kernel
theorem dX6_both_24 : decode cX6_both 24 = .ok (.ldc2_w 67, 3) := by decide +kernel
theorem dX6_both_27 : decode cX6_both 27 = .ok (.lreturn, 1) := by decide +kernel
theorem dX6_both_28 : decode cX6_both 28 = .ok (.iload_n 1, 1) := by decide +kernel
theorem dX6_both_29 : decode cX6_both 29 = .ok (.i2l, 1) := by decide +kernel
theorem dX6_both_30 : decode cX6_both 30 = .ok (.iload_n 2, 1) := by decide +kernel
theorem dX6_both_31 : decode cX6_both 31 = .ok (.i2l, 1) := by decide +kernel
theorem dX6_both_32 : decode cX6_both 32 = .ok (.invokestatic 89, 3) := by decide +kernel
theorem dX6_both_35 : decode cX6_both 35 = .ok (.iload_n 1, 1) := by decide +kernel
theorem dX6_both_36 : decode cX6_both 36 = .ok (.i2l, 1) := by decide +kernel
theorem dX6_both_37 : decode cX6_both 37 = .ok (.lmul, 1) := by decide +kernel
theorem dX6_both_38 : decode cX6_both 38 = .ok (.iload_n 2, 1) := by decide +kernel
theorem dX6_both_39 : decode cX6_both 39 = .ok (.i2l, 1) := by decide +kernel
theorem dX6_both_40 : decode cX6_both 40 = .ok (.iload_n 1, 1) := by decide +kernel
theorem dX6_both_41 : decode cX6_both 41 = .ok (.i2l, 1) := by decide +kernel
theorem dX6_both_42 : decode cX6_both 42 = .ok (.invokestatic 89, 3) := by decide +kernel
theorem dX6_both_45 : decode cX6_both 45 = .ok (.iload_n 2, 1) := by decide +kernel
theorem dX6_both_46 : decode cX6_both 46 = .ok (.i2l, 1) := by decide +kernel
theorem dX6_both_47 : decode cX6_both 47 = .ok (.lmul, 1) := by decide +kernel
theorem dX6_both_48 : decode cX6_both 48 = .ok (.ladd, 1) := by decide +kernel
theorem dX6_both_49 : decode cX6_both 49 = .ok (.lstore 4, 2) := by decide +kernel
theorem dX6_both_51 : decode cX6_both 51 = .ok (.new 44, 3) := by decide +kernel
theorem dX6_both_54 : decode cX6_both 54 = .ok (.dup, 1) := by decide +kernel
theorem dX6_both_55 : decode cX6_both 55 = .ok (.lload 4, 2) := by decide +kernel
theorem dX6_both_57 : decode cX6_both 57 = .ok (.ldc2_w 95, 3) := by decide +kernel
theorem dX6_both_60 : decode cX6_both 60 = .ok (.iload_n 1, 1) := by decide +kernel
theorem dX6_both_61 : decode cX6_both 61 = .ok (.i2l, 1) := by decide +kernel
theorem dX6_both_62 : decode cX6_both 62 = .ok (.lmul, 1) := by decide +kernel
theorem dX6_both_63 : decode cX6_both 63 = .ok (.iload_n 2, 1) := by decide +kernel
theorem dX6_both_64 : decode cX6_both 64 = .ok (.i2l, 1) := by decide +kernel
theorem dX6_both_65 : decode cX6_both 65 = .ok (.lmul, 1) := by decide +kernel
theorem dX6_both_66 : decode cX6_both 66 = .ok (.invokespecial 46, 3) := by decide +kernel
theorem dX6_both_69 : decode cX6_both 69 = .ok (.iload_n 3, 1) := by decide +kernel
theorem dX6_both_70 : decode cX6_both 70 = .ok (.invokevirtual 79, 3) := by decide +kernel
theorem dX6_both_73 : decode cX6_both 73 = .ok (.lreturn, 1) := by decide +kernel
set_option maxRecDepth 20000 in
theorem ggX6_three_X6_areThree : GoodIn wsX6_three wsX6_areThree := goodIn_r _ [9, 10, 11, 12, 8, 13, 14, 15, 16, 17, 18, 19, 20, 21, 22, 23, 24] (by decide +kernel) (by decide +kernel)
set_option maxRecDepth 20000 in
theorem gX6_three_X6_areThree : GoodIn wsX6_three (va_wsS RX6 97 yX6_areThree wsX6_areThree) := goodIn_app (goodIn_of _ (by decide +kernel)) ggX6_three_X6_areThree
set_option maxRecDepth 20000 in
theorem ggX6_three_X5_inverse : GoodIn wsX6_three wsX5_inverse := goodIn_r _ [27, 28, 29, 30, 31] (by decide +kernel) (by decide +kernel)
set_option maxRecDepth 20000 in
theorem gX6_three_X5_inverse : GoodIn wsX6_three (va_wsS RX6 101 yX5_inverse wsX5_inverse) := goodIn_app (goodIn_of _ (by decide +kernel)) ggX6_three_X5_inverse
set_option maxRecDepth 20000 in
theorem ggX6_three_X5_twelfths : GoodIn wsX6_three wsX5_twelfths := goodIn_r _ [34, 35, 28, 29, 30, 31] (by decide +kernel) (by decide +kernel)
set_option maxRecDepth 20000 in
theorem gX6_three_X5_twelfths : GoodIn wsX6_three (va_wsS RX6 89 yX5_twelfths wsX5_twelfths) := goodIn_app (goodIn_of _ (by decide +kernel)) ggX6_three_X5_twelfths
set_option maxRecDepth 20000 in
theorem ggX6_three_X1_init : GoodIn wsX6_three wsX1_init := goodIn_r _ [38, 39, 40, 41, 42, 43, 44, 15, 16, 17, 18, 19, 20, 21, 22, 23, 24, 49, 50] (by decide +kernel) (by decide +kernel)
set_option maxRecDepth 20000 in
theorem gX6_three_X1_init : GoodIn wsX6_three (wsX1_init) := ggX6_three_X1_init
set_option maxRecDepth 20000 in
theorem ggX6_three_X1_part : GoodIn wsX6_three wsX1_part := goodIn_r _ [48, 43, 42, 49, 50] (by decide +kernel) (by decide +kernel)
set_option maxRecDepth 20000 in
theorem gX6_three_X1_part : GoodIn wsX6_three (wsV RX6 79 RX1 yX1_part wsX1_part) := goodIn_app (goodIn_of _ (by decide +kernel)) ggX6_three_X1_part
theorem dX6_three_0 : decode cX6_three 0 = .ok (.iload_n 1, 1) := by decide +kernel
theorem dX6_three_1 : decode cX6_three 1 = .ok (.iload_n 2, 1) := by decide +kernel
theorem dX6_three_2 : decode cX6_three 2 = .ok (.iload_n 3, 1) := by decide +kernel
theorem dX6_three_3 : decode cX6_three 3 = .ok (.invokestatic 97, 3) := by decide +kernel
theorem dX6_three_6 : decode cX6_three 6 = .ok (.ifCond .ne 7, 3) := by decide +kernel
theorem dX6_three_9 : decode cX6_three 9 = .ok (.ldc2_w 67, 3) := by decide +kernel
theorem dX6_three_12 : decode cX6_three 12 = .ok (.lreturn, 1) := by decide +kernel
theorem dX6_three_13 : decode cX6_three 13 = .ok (.iload_n 1, 1) := by decide +kernel
theorem dX6_three_14 : decode cX6_three 14 = .ok (.i2l, 1) := by decide +kernel
theorem dX6_three_15 : decode cX6_three 15 = .ok (.iload_n 2, 1) := by decide +kernel
theorem dX6_three_16 : decode cX6_three 16 = .ok (.i2l, 1) := by decide +kernel
theorem dX6_three_17 : decode cX6_three 17 = .ok (.iload_n 3, 1) := by decide +kernel
theorem dX6_three_18 : decode cX6_three 18 = .ok (.i2l, 1) := by decide +kernel
theorem dX6_three_19 : decode cX6_three 19 = .ok (.invokestatic 101, 3) := by decide +kernel
theorem dX6_three_22 : decode cX6_three 22 = .ok (.lmul, 1) := by decide +kernel
theorem dX6_three_23 : decode cX6_three 23 = .ok (.iload_n 3, 1) := by decide +kernel
theorem dX6_three_24 : decode cX6_three 24 = .ok (.i2l, 1) := by decide +kernel
theorem dX6_three_25 : decode cX6_three 25 = .ok (.invokestatic 89, 3) := by decide +kernel
theorem dX6_three_28 : decode cX6_three 28 = .ok (.lstore 5, 2) := by decide +kernel
theorem dX6_three_30 : decode cX6_three 30 = .ok (.iload_n 2, 1) := by decide +kernel
theorem dX6_three_31 : decode cX6_three 31 = .ok (.i2l, 1) := by decide +kernel
theorem dX6_three_32 : decode cX6_three 32 = .ok (.iload_n 3, 1) := by decide +kernel
theorem dX6_three_33 : decode cX6_three 33 = .ok (.i2l, 1) := by decide +kernel
theorem dX6_three_34 : decode cX6_three 34 = .ok (.iload_n 1, 1) := by decide +kernel
theorem dX6_three_35 : decode cX6_three 35 = .ok (.i2l, 1) := by decide +kernel
theorem dX6_three_36 : decode cX6_three 36 = .ok (.invokestatic 101, 3) := by decide +kernel
theorem dX6_three_39 : decode cX6_three 39 = .ok (.lmul, 1) := by decide +kernel
theorem dX6_three_40 : decode cX6_three 40 = .ok (.iload_n 1, 1) := by decide +kernel
theorem dX6_three_41 : decode cX6_three 41 = .ok (.i2l, 1) := by decide +kernel
theorem dX6_three_42 : decode cX6_three 42 = .ok (.invokestatic 89, 3) := by decide +kernel
theorem dX6_three_45 : decode cX6_three 45 = .ok (.lstore 7, 2) := by decide +kernel
theorem dX6_three_47 : decode cX6_three 47 = .ok (.iload_n 3, 1) := by decide +kernel
theorem dX6_three_48 : decode cX6_three 48 = .ok (.i2l, 1) := by decide +kernel
theorem dX6_three_49 : decode cX6_three 49 = .ok (.iload_n 1, 1) := by decide +kernel
theorem dX6_three_50 : decode cX6_three 50 = .ok (.i2l, 1) := by decide +kernel
theorem dX6_three_51 : decode cX6_three 51 = .ok (.iload_n 2, 1) := by decide +kernel
theorem dX6_three_52 : decode cX6_three 52 = .ok (.i2l, 1) := by decide +kernel
theorem dX6_three_53 : decode cX6_three 53 = .ok (.invokestatic 101, 3) := by decide +kernel
theorem dX6_three_56 : decode cX6_three 56 = .ok (.lmul, 1) := by decide +kernel
theorem dX6_three_57 : decode cX6_three 57 = .ok (.iload_n 2, 1) := by decide +kernel
theorem dX6_three_58 : decode cX6_three 58 = .ok (.i2l, 1) := by decide +kernel
theorem dX6_three_59 : decode cX6_three 59 = .ok (.invokestatic 89, 3) := by decide +kernel
theorem dX6_three_62 : decode cX6_three 62 = .ok (.lstore 9, 2) := by decide +kernel
theorem dX6_three_64 : decode cX6_three 64 = .ok (.lload 5, 2) := by decide +kernel
theorem dX6_three_66 : decode cX6_three 66 = .ok (.iload_n 1, 1) := by decide +kernel
theorem dX6_three_67 : decode cX6_three 67 = .ok (.i2l, 1) := by decide +kernel
theorem dX6_three_68 : decode cX6_three 68 = .ok (.lmul, 1) := by decide +kernel
theorem dX6_three_69 : decode cX6_three 69 = .ok (.iload_n 2, 1) := by decide +kernel
theorem dX6_three_70 : decode cX6_three 70 = .ok (.i2l, 1) := by decide +kernel
theorem dX6_three_71 : decode cX6_three 71 = .ok (.lmul, 1) := by decide +kernel
theorem dX6_three_72 : decode cX6_three 72 = .ok (.lload 7, 2) := by decide +kernel
theorem dX6_three_74 : decode cX6_three 74 = .ok (.iload_n 2, 1) := by decide +kernel
theorem dX6_three_75 : decode cX6_three 75 = .ok (.i2l, 1) := by decide +kernel
theorem dX6_three_76 : decode cX6_three 76 = .ok (.lmul, 1) := by decide +kernel
theorem dX6_three_77 : decode cX6_three 77 = .ok (.iload_n 3, 1) := by decide +kernel
theorem dX6_three_78 : decode cX6_three 78 = .ok (.i2l, 1) := by decide +kernel
theorem dX6_three_79 : decode cX6_three 79 = .ok (.lmul, 1) := by decide +kernel
theorem dX6_three_80 : decode cX6_three 80 = .ok (.ladd, 1) := by decide +kernel
theorem dX6_three_81 : decode cX6_three 81 = .ok (.lload 9, 2) := by decide +kernel
theorem dX6_three_83 : decode cX6_three 83 = .ok (.iload_n 1, 1) := by decide +kernel
theorem dX6_three_84 : decode cX6_three 84 = .ok (.i2l, 1) := by decide +kernel
theorem dX6_three_85 : decode cX6_three 85 = .ok (.lmul, 1) := by decide +kernel
theorem dX6_three_86 : decode cX6_three 86 = .ok (.iload_n 3, 1) := by decide +kernel
theorem dX6_three_87 : decode cX6_three 87 = .ok (.i2l, 1) := by decide +kernel
theorem dX6_three_88 : decode cX6_three 88 = .ok (.lmul, 1) := by decide +kernel
theorem dX6_three_89 : decode cX6_three 89 = .ok (.ladd, 1) := by decide +kernel
theorem dX6_three_90 : decode cX6_three 90 = .ok (.lstore 11, 2) := by decide +kernel
theorem dX6_three_92 : decode cX6_three 92 = .ok (.new 44, 3) := by decide +kernel
theorem dX6_three_95 : decode cX6_three 95 = .ok (.dup, 1) := by decide +kernel
theorem dX6_three_96 : decode cX6_three 96 = .ok (.lload 11, 2) := by decide +kernel
theorem dX6_three_98 : decode cX6_three 98 = .ok (.ldc2_w 95, 3) := by decide +kernel
theorem dX6_three_101 : decode cX6_three 101 = .ok (.iload_n 1, 1) := by decide +kernel
theorem dX6_three_102 : decode cX6_three 102 = .ok (.i2l, 1) := by decide +kernel
theorem dX6_three_103 : decode cX6_three 103 = .ok (.lmul, 1) := by decide +kernel
theorem dX6_three_104 : decode cX6_three 104 = .ok (.iload_n 2, 1) := by decide +kernel
theorem dX6_three_105 : decode cX6_three 105 = .ok (.i2l, 1) := by decide +kernel
theorem dX6_three_106 : decode cX6_three 106 = .ok (.lmul, 1) := by decide +kernel
theorem dX6_three_107 : decode cX6_three 107 = .ok (.iload_n 3, 1) := by decide +kernel
theorem dX6_three_108 : decode cX6_three 108 = .ok (.i2l, 1) := by decide +kernel
theorem dX6_three_109 : decode cX6_three 109 = .ok (.lmul, 1) := by decide +kernel
theorem dX6_three_110 : decode cX6_three 110 = .ok (.invokespecial 46, 3) := by decide +kernel
theorem dX6_three_113 : decode cX6_three 113 = .ok (.iload 4, 2) := by decide +kernel
theorem dX6_three_115 : decode cX6_three 115 = .ok (.invokevirtual 79, 3) := by decide +kernel
theorem dX6_three_118 : decode cX6_three 118 = .ok (.lreturn, 1) := by decide +kernel
set_option maxRecDepth 20000 in
theorem ggX6_areThree_X6_lies : GoodIn wsX6_areThree wsX6_lies := goodIn_r _ [5] (by decide +kernel) (by decide +kernel)
set_option maxRecDepth 20000 in
theorem gX6_areThree_X6_lies : GoodIn wsX6_areThree (va_wsS RX6 63 yX6_lies wsX6_lies) := goodIn_app (goodIn_of _ (by decide +kernel)) ggX6_areThree_X6_lies
set_option maxRecDepth 20000 in
theorem ggX6_areThree_X5_divisor : GoodIn wsX6_areThree wsX5_divisor := goodIn_r _ [9, 10, 11, 12, 13, 14, 15, 16] (by decide +kernel) (by decide +kernel)
set_option maxRecDepth 20000 in
theorem gX6_areThree_X5_divisor : GoodIn wsX6_areThree (va_wsS RX6 106 yX5_divisor wsX5_divisor) := goodIn_app (goodIn_of _ (by decide +kernel)) ggX6_areThree_X5_divisor
theorem dX6_areThree_0 : decode cX6_areThree 0 = .ok (.iload_n 0, 1) := by decide +kernel
theorem dX6_areThree_1 : decode cX6_areThree 1 = .ok (.i2l, 1) := by decide +kernel
theorem dX6_areThree_2 : decode cX6_areThree 2 = .ok (.lconst 1, 1) := by decide +kernel
theorem dX6_areThree_3 : decode cX6_areThree 3 = .ok (.ldc2_w 104, 3) := by decide +kernel
theorem dX6_areThree_6 : decode cX6_areThree 6 = .ok (.invokestatic 63, 3) := by decide +kernel
theorem dX6_areThree_9 : decode cX6_areThree 9 = .ok (.ifCond .eq 67, 3) := by decide +kernel
theorem dX6_areThree_12 : decode cX6_areThree 12 = .ok (.iload_n 1, 1) := by decide +kernel
theorem dX6_areThree_13 : decode cX6_areThree 13 = .ok (.i2l, 1) := by decide +kernel
theorem dX6_areThree_14 : decode cX6_areThree 14 = .ok (.lconst 1, 1) := by decide +kernel
theorem dX6_areThree_15 : decode cX6_areThree 15 = .ok (.ldc2_w 104, 3) := by decide +kernel
theorem dX6_areThree_18 : decode cX6_areThree 18 = .ok (.invokestatic 63, 3) := by decide +kernel
theorem dX6_areThree_21 : decode cX6_areThree 21 = .ok (.ifCond .eq 55, 3) := by decide +kernel
theorem dX6_areThree_24 : decode cX6_areThree 24 = .ok (.iload_n 2, 1) := by decide +kernel
theorem dX6_areThree_25 : decode cX6_areThree 25 = .ok (.i2l, 1) := by decide +kernel
theorem dX6_areThree_26 : decode cX6_areThree 26 = .ok (.lconst 1, 1) := by decide +kernel
theorem dX6_areThree_27 : decode cX6_areThree 27 = .ok (.ldc2_w 104, 3) := by decide +kernel
theorem dX6_areThree_30 : decode cX6_areThree 30 = .ok (.invokestatic 63, 3) := by decide +kernel
theorem dX6_areThree_33 : decode cX6_areThree 33 = .ok (.ifCond .eq 43, 3) := by decide +kernel
theorem dX6_areThree_36 : decode cX6_areThree 36 = .ok (.iload_n 0, 1) := by decide +kernel
theorem dX6_areThree_37 : decode cX6_areThree 37 = .ok (.i2l, 1) := by decide +kernel
theorem dX6_areThree_38 : decode cX6_areThree 38 = .ok (.iload_n 1, 1) := by decide +kernel
theorem dX6_areThree_39 : decode cX6_areThree 39 = .ok (.i2l, 1) := by decide +kernel
theorem dX6_areThree_40 : decode cX6_areThree 40 = .ok (.invokestatic 106, 3) := by decide +kernel
theorem dX6_areThree_43 : decode cX6_areThree 43 = .ok (.lconst 1, 1) := by decide +kernel
theorem dX6_areThree_44 : decode cX6_areThree 44 = .ok (.lcmp, 1) := by decide +kernel
theorem dX6_areThree_45 : decode cX6_areThree 45 = .ok (.ifCond .ne 31, 3) := by decide +kernel
theorem dX6_areThree_48 : decode cX6_areThree 48 = .ok (.iload_n 1, 1) := by decide +kernel
theorem dX6_areThree_49 : decode cX6_areThree 49 = .ok (.i2l, 1) := by decide +kernel
theorem dX6_areThree_50 : decode cX6_areThree 50 = .ok (.iload_n 2, 1) := by decide +kernel
theorem dX6_areThree_51 : decode cX6_areThree 51 = .ok (.i2l, 1) := by decide +kernel
theorem dX6_areThree_52 : decode cX6_areThree 52 = .ok (.invokestatic 106, 3) := by decide +kernel
theorem dX6_areThree_55 : decode cX6_areThree 55 = .ok (.lconst 1, 1) := by decide +kernel
theorem dX6_areThree_56 : decode cX6_areThree 56 = .ok (.lcmp, 1) := by decide +kernel
theorem dX6_areThree_57 : decode cX6_areThree 57 = .ok (.ifCond .ne 19, 3) := by decide +kernel
theorem dX6_areThree_60 : decode cX6_areThree 60 = .ok (.iload_n 0, 1) := by decide +kernel
theorem dX6_areThree_61 : decode cX6_areThree 61 = .ok (.i2l, 1) := by decide +kernel
theorem dX6_areThree_62 : decode cX6_areThree 62 = .ok (.iload_n 2, 1) := by decide +kernel
theorem dX6_areThree_63 : decode cX6_areThree 63 = .ok (.i2l, 1) := by decide +kernel
theorem dX6_areThree_64 : decode cX6_areThree 64 = .ok (.invokestatic 106, 3) := by decide +kernel
theorem dX6_areThree_67 : decode cX6_areThree 67 = .ok (.lconst 1, 1) := by decide +kernel
theorem dX6_areThree_68 : decode cX6_areThree 68 = .ok (.lcmp, 1) := by decide +kernel
theorem dX6_areThree_69 : decode cX6_areThree 69 = .ok (.ifCond .ne 7, 3) := by decide +kernel
theorem dX6_areThree_72 : decode cX6_areThree 72 = .ok (.iconst 1, 1) := by decide +kernel
theorem dX6_areThree_73 : decode cX6_areThree 73 = .ok (.goto 4, 3) := by decide +kernel
theorem dX6_areThree_76 : decode cX6_areThree 76 = .ok (.iconst 0, 1) := by decide +kernel
theorem dX6_areThree_77 : decode cX6_areThree 77 = .ok (.ireturn, 1) := by decide +kernel
set_option maxRecDepth 20000 in
theorem ggX6_above_X6_lies : GoodIn wsX6_above wsX6_lies := goodIn_r _ [6] (by decide +kernel) (by decide +kernel)
set_option maxRecDepth 20000 in
theorem gX6_above_X6_lies : GoodIn wsX6_above (va_wsS RX6 63 yX6_lies wsX6_lies) := goodIn_app (goodIn_of _ (by decide +kernel)) ggX6_above_X6_lies
set_option maxRecDepth 20000 in
theorem ggX6_above_X5_twelfths : GoodIn wsX6_above wsX5_twelfths := goodIn_r _ [10, 11, 12, 13, 14, 15] (by decide +kernel) (by decide +kernel)
set_option maxRecDepth 20000 in
theorem gX6_above_X5_twelfths : GoodIn wsX6_above (va_wsS RX6 89 yX5_twelfths wsX5_twelfths) := goodIn_app (goodIn_of _ (by decide +kernel)) ggX6_above_X5_twelfths
theorem dX6_above_0 : decode cX6_above 0 = .ok (.iload_n 2, 1) := by decide +kernel
theorem dX6_above_1 : decode cX6_above 1 = .ok (.i2l, 1) := by decide +kernel
theorem dX6_above_2 : decode cX6_above 2 = .ok (.lconst 1, 1) := by decide +kernel
theorem dX6_above_3 : decode cX6_above 3 = .ok (.ldc2_w 104, 3) := by decide +kernel
theorem dX6_above_6 : decode cX6_above 6 = .ok (.invokestatic 63, 3) := by decide +kernel
theorem dX6_above_9 : decode cX6_above 9 = .ok (.ifCond .eq 15, 3) := by decide +kernel
theorem dX6_above_12 : decode cX6_above 12 = .ok (.iload_n 3, 1) := by decide +kernel
theorem dX6_above_13 : decode cX6_above 13 = .ok (.i2l, 1) := by decide +kernel
theorem dX6_above_14 : decode cX6_above 14 = .ok (.lconst 1, 1) := by decide +kernel
theorem dX6_above_15 : decode cX6_above 15 = .ok (.ldc2_w 104, 3) := by decide +kernel
theorem dX6_above_18 : decode cX6_above 18 = .ok (.invokestatic 63, 3) := by decide +kernel
theorem dX6_above_21 : decode cX6_above 21 = .ok (.ifCond .ne 7, 3) := by decide +kernel
theorem dX6_above_24 : decode cX6_above 24 = .ok (.ldc2_w 67, 3) := by decide +kernel
theorem dX6_above_27 : decode cX6_above 27 = .ok (.lreturn, 1) := by decide +kernel
theorem dX6_above_28 : decode cX6_above 28 = .ok (.iload_n 1, 1) := by decide +kernel
theorem dX6_above_29 : decode cX6_above 29 = .ok (.i2l, 1) := by decide +kernel
theorem dX6_above_30 : decode cX6_above 30 = .ok (.iload_n 2, 1) := by decide +kernel
theorem dX6_above_31 : decode cX6_above 31 = .ok (.i2l, 1) := by decide +kernel
theorem dX6_above_32 : decode cX6_above 32 = .ok (.invokestatic 89, 3) := by decide +kernel
theorem dX6_above_35 : decode cX6_above 35 = .ok (.lstore 4, 2) := by decide +kernel
theorem dX6_above_37 : decode cX6_above 37 = .ok (.lconst 0, 1) := by decide +kernel
theorem dX6_above_38 : decode cX6_above 38 = .ok (.lstore 6, 2) := by decide +kernel
theorem dX6_above_40 : decode cX6_above 40 = .ok (.iconst 1, 1) := by decide +kernel
theorem dX6_above_41 : decode cX6_above 41 = .ok (.istore 8, 2) := by decide +kernel
theorem dX6_above_43 : decode cX6_above 43 = .ok (.iload 8, 2) := by decide +kernel
theorem dX6_above_45 : decode cX6_above 45 = .ok (.iload_n 3, 1) := by decide +kernel
theorem dX6_above_46 : decode cX6_above 46 = .ok (.if_icmp .gt 36, 3) := by decide +kernel
theorem dX6_above_49 : decode cX6_above 49 = .ok (.iload_n 1, 1) := by decide +kernel
theorem dX6_above_50 : decode cX6_above 50 = .ok (.i2l, 1) := by decide +kernel
theorem dX6_above_51 : decode cX6_above 51 = .ok (.iload 8, 2) := by decide +kernel
theorem dX6_above_53 : decode cX6_above 53 = .ok (.i2l, 1) := by decide +kernel
theorem dX6_above_54 : decode cX6_above 54 = .ok (.invokestatic 89, 3) := by decide +kernel
theorem dX6_above_57 : decode cX6_above 57 = .ok (.iload_n 2, 1) := by decide +kernel
theorem dX6_above_58 : decode cX6_above 58 = .ok (.i2l, 1) := by decide +kernel
theorem dX6_above_59 : decode cX6_above 59 = .ok (.lmul, 1) := by decide +kernel
theorem dX6_above_60 : decode cX6_above 60 = .ok (.lload 4, 2) := by decide +kernel
theorem dX6_above_62 : decode cX6_above 62 = .ok (.iload 8, 2) := by decide +kernel
theorem dX6_above_64 : decode cX6_above 64 = .ok (.i2l, 1) := by decide +kernel
theorem dX6_above_65 : decode cX6_above 65 = .ok (.lmul, 1) := by decide +kernel
theorem dX6_above_66 : decode cX6_above 66 = .ok (.lcmp, 1) := by decide +kernel
theorem dX6_above_67 : decode cX6_above 67 = .ok (.ifCond .le 9, 3) := by decide +kernel
theorem dX6_above_70 : decode cX6_above 70 = .ok (.lload 6, 2) := by decide +kernel
theorem dX6_above_72 : decode cX6_above 72 = .ok (.lconst 1, 1) := by decide +kernel
theorem dX6_above_73 : decode cX6_above 73 = .ok (.ladd, 1) := by decide +kernel
theorem dX6_above_74 : decode cX6_above 74 = .ok (.lstore 6, 2) := by decide +kernel
theorem dX6_above_76 : decode cX6_above 76 = .ok (.iinc 8 1, 3) := by decide +kernel
theorem dX6_above_79 : decode cX6_above 79 = .ok (.goto (-36), 3) := by decide +kernel
theorem dX6_above_82 : decode cX6_above 82 = .ok (.lload 6, 2) := by decide +kernel
theorem dX6_above_84 : decode cX6_above 84 = .ok (.lreturn, 1) := by decide +kernel
set_option maxRecDepth 20000 in
theorem ggX6_chain_X6_lies : GoodIn wsX6_chain wsX6_lies := goodIn_r _ [5] (by decide +kernel) (by decide +kernel)
set_option maxRecDepth 20000 in
theorem gX6_chain_X6_lies : GoodIn wsX6_chain (va_wsS RX6 63 yX6_lies wsX6_lies) := goodIn_app (goodIn_of _ (by decide +kernel)) ggX6_chain_X6_lies
set_option maxRecDepth 20000 in
theorem ggX6_chain_X5_divisor : GoodIn wsX6_chain wsX5_divisor := goodIn_r _ [9, 10, 11, 12, 13, 14, 15, 16] (by decide +kernel) (by decide +kernel)
set_option maxRecDepth 20000 in
theorem gX6_chain_X5_divisor : GoodIn wsX6_chain (va_wsS RX6 106 yX5_divisor wsX5_divisor) := goodIn_app (goodIn_of _ (by decide +kernel)) ggX6_chain_X5_divisor
set_option maxRecDepth 20000 in
theorem ggX6_chain_J9_floorMod_7cf53 : GoodIn wsX6_chain wsJ9_floorMod_7cf53 := goodIn_r _ [20] (by decide +kernel) (by decide +kernel)
set_option maxRecDepth 20000 in
theorem gX6_chain_J9_floorMod_7cf53 : GoodIn wsX6_chain (va_wsS RX6 109 yJ9_floorMod_7cf53 wsJ9_floorMod_7cf53) := goodIn_app (goodIn_of _ (by decide +kernel)) ggX6_chain_J9_floorMod_7cf53
theorem dX6_chain_0 : decode cX6_chain 0 = .ok (.iload_n 2, 1) := by decide +kernel
theorem dX6_chain_1 : decode cX6_chain 1 = .ok (.i2l, 1) := by decide +kernel
theorem dX6_chain_2 : decode cX6_chain 2 = .ok (.lconst 1, 1) := by decide +kernel
theorem dX6_chain_3 : decode cX6_chain 3 = .ok (.ldc2_w 61, 3) := by decide +kernel
theorem dX6_chain_6 : decode cX6_chain 6 = .ok (.invokestatic 63, 3) := by decide +kernel
theorem dX6_chain_9 : decode cX6_chain 9 = .ok (.ifCond .eq 15, 3) := by decide +kernel
theorem dX6_chain_12 : decode cX6_chain 12 = .ok (.iload_n 1, 1) := by decide +kernel
theorem dX6_chain_13 : decode cX6_chain 13 = .ok (.i2l, 1) := by decide +kernel
theorem dX6_chain_14 : decode cX6_chain 14 = .ok (.iload_n 2, 1) := by decide +kernel
theorem dX6_chain_15 : decode cX6_chain 15 = .ok (.i2l, 1) := by decide +kernel
theorem dX6_chain_16 : decode cX6_chain 16 = .ok (.invokestatic 106, 3) := by decide +kernel
theorem dX6_chain_19 : decode cX6_chain 19 = .ok (.lconst 1, 1) := by decide +kernel
theorem dX6_chain_20 : decode cX6_chain 20 = .ok (.lcmp, 1) := by decide +kernel
theorem dX6_chain_21 : decode cX6_chain 21 = .ok (.ifCond .eq 5, 3) := by decide +kernel
theorem dX6_chain_24 : decode cX6_chain 24 = .ok (.iconst (-1), 1) := by decide +kernel
theorem dX6_chain_25 : decode cX6_chain 25 = .ok (.ireturn, 1) := by decide +kernel
theorem dX6_chain_26 : decode cX6_chain 26 = .ok (.iload_n 1, 1) := by decide +kernel
theorem dX6_chain_27 : decode cX6_chain 27 = .ok (.iload_n 2, 1) := by decide +kernel
theorem dX6_chain_28 : decode cX6_chain 28 = .ok (.invokestatic 109, 3) := by decide +kernel
theorem dX6_chain_31 : decode cX6_chain 31 = .ok (.istore 4, 2) := by decide +kernel
theorem dX6_chain_33 : decode cX6_chain 33 = .ok (.iload_n 2, 1) := by decide +kernel
theorem dX6_chain_34 : decode cX6_chain 34 = .ok (.istore 5, 2) := by decide +kernel
theorem dX6_chain_36 : decode cX6_chain 36 = .ok (.iconst 0, 1) := by decide +kernel
theorem dX6_chain_37 : decode cX6_chain 37 = .ok (.istore 6, 2) := by decide +kernel
theorem dX6_chain_39 : decode cX6_chain 39 = .ok (.iload 6, 2) := by decide +kernel
theorem dX6_chain_41 : decode cX6_chain 41 = .ok (.sipush 200, 3) := by decide +kernel
theorem dX6_chain_44 : decode cX6_chain 44 = .ok (.if_icmp .ge 41, 3) := by decide +kernel
theorem dX6_chain_47 : decode cX6_chain 47 = .ok (.iload 4, 2) := by decide +kernel
theorem dX6_chain_49 : decode cX6_chain 49 = .ok (.ifCond .eq 36, 3) := by decide +kernel
theorem dX6_chain_52 : decode cX6_chain 52 = .ok (.iload 6, 2) := by decide +kernel
theorem dX6_chain_54 : decode cX6_chain 54 = .ok (.iload_n 3, 1) := by decide +kernel
theorem dX6_chain_55 : decode cX6_chain 55 = .ok (.if_icmp .ne 9, 3) := by decide +kernel
theorem dX6_chain_58 : decode cX6_chain 58 = .ok (.iload 5, 2) := by decide +kernel
theorem dX6_chain_60 : decode cX6_chain 60 = .ok (.iload 4, 2) := by decide +kernel
theorem dX6_chain_62 : decode cX6_chain 62 = .ok (.idiv, 1) := by decide +kernel
theorem dX6_chain_63 : decode cX6_chain 63 = .ok (.ireturn, 1) := by decide +kernel
theorem dX6_chain_64 : decode cX6_chain 64 = .ok (.iload 5, 2) := by decide +kernel
theorem dX6_chain_66 : decode cX6_chain 66 = .ok (.iload 4, 2) := by decide +kernel
theorem dX6_chain_68 : decode cX6_chain 68 = .ok (.irem, 1) := by decide +kernel
theorem dX6_chain_69 : decode cX6_chain 69 = .ok (.istore 7, 2) := by decide +kernel
theorem dX6_chain_71 : decode cX6_chain 71 = .ok (.iload 4, 2) := by decide +kernel
theorem dX6_chain_73 : decode cX6_chain 73 = .ok (.istore 5, 2) := by decide +kernel
theorem dX6_chain_75 : decode cX6_chain 75 = .ok (.iload 7, 2) := by decide +kernel
theorem dX6_chain_77 : decode cX6_chain 77 = .ok (.istore 4, 2) := by decide +kernel
theorem dX6_chain_79 : decode cX6_chain 79 = .ok (.iinc 6 1, 3) := by decide +kernel
theorem dX6_chain_82 : decode cX6_chain 82 = .ok (.goto (-43), 3) := by decide +kernel
theorem dX6_chain_85 : decode cX6_chain 85 = .ok (.iload_n 3, 1) := by decide +kernel
theorem dX6_chain_86 : decode cX6_chain 86 = .ok (.iconst (-1), 1) := by decide +kernel
theorem dX6_chain_87 : decode cX6_chain 87 = .ok (.if_icmp .ne 8, 3) := by decide +kernel
theorem dX6_chain_90 : decode cX6_chain 90 = .ok (.iload 6, 2) := by decide +kernel
theorem dX6_chain_92 : decode cX6_chain 92 = .ok (.goto 4, 3) := by decide +kernel
theorem dX6_chain_95 : decode cX6_chain 95 = .ok (.iconst (-1), 1) := by decide +kernel
theorem dX6_chain_96 : decode cX6_chain 96 = .ok (.ireturn, 1) := by decide +kernel
set_option maxRecDepth 20000 in
theorem ggX6_minus_X6_lies : GoodIn wsX6_minus wsX6_lies := goodIn_r _ [5] (by decide +kernel) (by decide +kernel)
set_option maxRecDepth 20000 in
theorem gX6_minus_X6_lies : GoodIn wsX6_minus (va_wsS RX6 63 yX6_lies wsX6_lies) := goodIn_app (goodIn_of _ (by decide +kernel)) ggX6_minus_X6_lies
set_option maxRecDepth 20000 in
theorem ggX6_minus_X5_divisor : GoodIn wsX6_minus wsX5_divisor := goodIn_r _ [9, 10, 11, 12, 13, 14, 15, 16] (by decide +kernel) (by decide +kernel)
set_option maxRecDepth 20000 in
theorem gX6_minus_X5_divisor : GoodIn wsX6_minus (va_wsS RX6 106 yX5_divisor wsX5_divisor) := goodIn_app (goodIn_of _ (by decide +kernel)) ggX6_minus_X5_divisor
set_option maxRecDepth 20000 in
theorem ggX6_minus_J9_floorMod_7cf53 : GoodIn wsX6_minus wsJ9_floorMod_7cf53 := goodIn_r _ [20] (by decide +kernel) (by decide +kernel)
set_option maxRecDepth 20000 in
theorem gX6_minus_J9_floorMod_7cf53 : GoodIn wsX6_minus (va_wsS RX6 109 yJ9_floorMod_7cf53 wsJ9_floorMod_7cf53) := goodIn_app (goodIn_of _ (by decide +kernel)) ggX6_minus_J9_floorMod_7cf53
theorem dX6_minus_0 : decode cX6_minus 0 = .ok (.iload_n 2, 1) := by decide +kernel
theorem dX6_minus_1 : decode cX6_minus 1 = .ok (.i2l, 1) := by decide +kernel
theorem dX6_minus_2 : decode cX6_minus 2 = .ok (.lconst 1, 1) := by decide +kernel
theorem dX6_minus_3 : decode cX6_minus 3 = .ok (.ldc2_w 113, 3) := by decide +kernel
theorem dX6_minus_6 : decode cX6_minus 6 = .ok (.invokestatic 63, 3) := by decide +kernel
theorem dX6_minus_9 : decode cX6_minus 9 = .ok (.ifCond .eq 15, 3) := by decide +kernel
theorem dX6_minus_12 : decode cX6_minus 12 = .ok (.iload_n 1, 1) := by decide +kernel
theorem dX6_minus_13 : decode cX6_minus 13 = .ok (.i2l, 1) := by decide +kernel
theorem dX6_minus_14 : decode cX6_minus 14 = .ok (.iload_n 2, 1) := by decide +kernel
theorem dX6_minus_15 : decode cX6_minus 15 = .ok (.i2l, 1) := by decide +kernel
theorem dX6_minus_16 : decode cX6_minus 16 = .ok (.invokestatic 106, 3) := by decide +kernel
theorem dX6_minus_19 : decode cX6_minus 19 = .ok (.lconst 1, 1) := by decide +kernel
theorem dX6_minus_20 : decode cX6_minus 20 = .ok (.lcmp, 1) := by decide +kernel
theorem dX6_minus_21 : decode cX6_minus 21 = .ok (.ifCond .eq 5, 3) := by decide +kernel
theorem dX6_minus_24 : decode cX6_minus 24 = .ok (.iconst (-1), 1) := by decide +kernel
theorem dX6_minus_25 : decode cX6_minus 25 = .ok (.ireturn, 1) := by decide +kernel
theorem dX6_minus_26 : decode cX6_minus 26 = .ok (.iload_n 1, 1) := by decide +kernel
theorem dX6_minus_27 : decode cX6_minus 27 = .ok (.iload_n 2, 1) := by decide +kernel
theorem dX6_minus_28 : decode cX6_minus 28 = .ok (.invokestatic 109, 3) := by decide +kernel
theorem dX6_minus_31 : decode cX6_minus 31 = .ok (.istore 4, 2) := by decide +kernel
theorem dX6_minus_33 : decode cX6_minus 33 = .ok (.iload_n 2, 1) := by decide +kernel
theorem dX6_minus_34 : decode cX6_minus 34 = .ok (.istore 5, 2) := by decide +kernel
theorem dX6_minus_36 : decode cX6_minus 36 = .ok (.iconst 0, 1) := by decide +kernel
theorem dX6_minus_37 : decode cX6_minus 37 = .ok (.istore 6, 2) := by decide +kernel
theorem dX6_minus_39 : decode cX6_minus 39 = .ok (.iload 6, 2) := by decide +kernel
theorem dX6_minus_41 : decode cX6_minus 41 = .ok (.sipush 10000, 3) := by decide +kernel
theorem dX6_minus_44 : decode cX6_minus 44 = .ok (.if_icmp .ge 53, 3) := by decide +kernel
theorem dX6_minus_47 : decode cX6_minus 47 = .ok (.iload 4, 2) := by decide +kernel
theorem dX6_minus_49 : decode cX6_minus 49 = .ok (.ifCond .eq 48, 3) := by decide +kernel
theorem dX6_minus_52 : decode cX6_minus 52 = .ok (.iload 5, 2) := by decide +kernel
theorem dX6_minus_54 : decode cX6_minus 54 = .ok (.iload 4, 2) := by decide +kernel
theorem dX6_minus_56 : decode cX6_minus 56 = .ok (.iadd, 1) := by decide +kernel
theorem dX6_minus_57 : decode cX6_minus 57 = .ok (.iconst 1, 1) := by decide +kernel
theorem dX6_minus_58 : decode cX6_minus 58 = .ok (.isub, 1) := by decide +kernel
theorem dX6_minus_59 : decode cX6_minus 59 = .ok (.iload 4, 2) := by decide +kernel
theorem dX6_minus_61 : decode cX6_minus 61 = .ok (.idiv, 1) := by decide +kernel
theorem dX6_minus_62 : decode cX6_minus 62 = .ok (.istore 7, 2) := by decide +kernel
theorem dX6_minus_64 : decode cX6_minus 64 = .ok (.iload 6, 2) := by decide +kernel
theorem dX6_minus_66 : decode cX6_minus 66 = .ok (.iload_n 3, 1) := by decide +kernel
theorem dX6_minus_67 : decode cX6_minus 67 = .ok (.if_icmp .ne 6, 3) := by decide +kernel
theorem dX6_minus_70 : decode cX6_minus 70 = .ok (.iload 7, 2) := by decide +kernel
theorem dX6_minus_72 : decode cX6_minus 72 = .ok (.ireturn, 1) := by decide +kernel
theorem dX6_minus_73 : decode cX6_minus 73 = .ok (.iload 7, 2) := by decide +kernel
theorem dX6_minus_75 : decode cX6_minus 75 = .ok (.iload 4, 2) := by decide +kernel
theorem dX6_minus_77 : decode cX6_minus 77 = .ok (.imul, 1) := by decide +kernel
theorem dX6_minus_78 : decode cX6_minus 78 = .ok (.iload 5, 2) := by decide +kernel
theorem dX6_minus_80 : decode cX6_minus 80 = .ok (.isub, 1) := by decide +kernel
theorem dX6_minus_81 : decode cX6_minus 81 = .ok (.istore 8, 2) := by decide +kernel
theorem dX6_minus_83 : decode cX6_minus 83 = .ok (.iload 4, 2) := by decide +kernel
theorem dX6_minus_85 : decode cX6_minus 85 = .ok (.istore 5, 2) := by decide +kernel
theorem dX6_minus_87 : decode cX6_minus 87 = .ok (.iload 8, 2) := by decide +kernel
theorem dX6_minus_89 : decode cX6_minus 89 = .ok (.istore 4, 2) := by decide +kernel
theorem dX6_minus_91 : decode cX6_minus 91 = .ok (.iinc 6 1, 3) := by decide +kernel
theorem dX6_minus_94 : decode cX6_minus 94 = .ok (.goto (-55), 3) := by decide +kernel
theorem dX6_minus_97 : decode cX6_minus 97 = .ok (.iload_n 3, 1) := by decide +kernel
theorem dX6_minus_98 : decode cX6_minus 98 = .ok (.iconst (-1), 1) := by decide +kernel
theorem dX6_minus_99 : decode cX6_minus 99 = .ok (.if_icmp .ne 8, 3) := by decide +kernel
theorem dX6_minus_102 : decode cX6_minus 102 = .ok (.iload 6, 2) := by decide +kernel
theorem dX6_minus_104 : decode cX6_minus 104 = .ok (.goto 4, 3) := by decide +kernel
theorem dX6_minus_107 : decode cX6_minus 107 = .ok (.iconst (-1), 1) := by decide +kernel
theorem dX6_minus_108 : decode cX6_minus 108 = .ok (.ireturn, 1) := by decide +kernel
set_option maxRecDepth 20000 in
theorem ggX6_alike_X6_lies : GoodIn wsX6_alike wsX6_lies := goodIn_r _ [5] (by decide +kernel) (by decide +kernel)
set_option maxRecDepth 20000 in
theorem gX6_alike_X6_lies : GoodIn wsX6_alike (va_wsS RX6 63 yX6_lies wsX6_lies) := goodIn_app (goodIn_of _ (by decide +kernel)) ggX6_alike_X6_lies
set_option maxRecDepth 20000 in
theorem ggX6_alike_X5_twelfths : GoodIn wsX6_alike wsX5_twelfths := goodIn_r _ [9, 10, 11, 12, 13, 14] (by decide +kernel) (by decide +kernel)
set_option maxRecDepth 20000 in
theorem gX6_alike_X5_twelfths : GoodIn wsX6_alike (va_wsS RX6 89 yX5_twelfths wsX5_twelfths) := goodIn_app (goodIn_of _ (by decide +kernel)) ggX6_alike_X5_twelfths
set_option maxRecDepth 20000 in
theorem ggX6_alike_X5_divisor : GoodIn wsX6_alike wsX5_divisor := goodIn_r _ [17, 18, 19, 20, 21, 22, 23, 24] (by decide +kernel) (by decide +kernel)
set_option maxRecDepth 20000 in
theorem gX6_alike_X5_divisor : GoodIn wsX6_alike (va_wsS RX6 106 yX5_divisor wsX5_divisor) := goodIn_app (goodIn_of _ (by decide +kernel)) ggX6_alike_X5_divisor
theorem dX6_alike_0 : decode cX6_alike 0 = .ok (.iload_n 2, 1) := by decide +kernel
theorem dX6_alike_1 : decode cX6_alike 1 = .ok (.i2l, 1) := by decide +kernel
theorem dX6_alike_2 : decode cX6_alike 2 = .ok (.lconst 1, 1) := by decide +kernel
theorem dX6_alike_3 : decode cX6_alike 3 = .ok (.ldc2_w 115, 3) := by decide +kernel
theorem dX6_alike_6 : decode cX6_alike 6 = .ok (.invokestatic 63, 3) := by decide +kernel
theorem dX6_alike_9 : decode cX6_alike 9 = .ok (.ifCond .ne 5, 3) := by decide +kernel
theorem dX6_alike_12 : decode cX6_alike 12 = .ok (.iconst (-1), 1) := by decide +kernel
theorem dX6_alike_13 : decode cX6_alike 13 = .ok (.ireturn, 1) := by decide +kernel
theorem dX6_alike_14 : decode cX6_alike 14 = .ok (.iload_n 1, 1) := by decide +kernel
theorem dX6_alike_15 : decode cX6_alike 15 = .ok (.i2l, 1) := by decide +kernel
theorem dX6_alike_16 : decode cX6_alike 16 = .ok (.iload_n 2, 1) := by decide +kernel
theorem dX6_alike_17 : decode cX6_alike 17 = .ok (.i2l, 1) := by decide +kernel
theorem dX6_alike_18 : decode cX6_alike 18 = .ok (.invokestatic 89, 3) := by decide +kernel
theorem dX6_alike_21 : decode cX6_alike 21 = .ok (.lstore 4, 2) := by decide +kernel
theorem dX6_alike_23 : decode cX6_alike 23 = .ok (.iconst 0, 1) := by decide +kernel
theorem dX6_alike_24 : decode cX6_alike 24 = .ok (.istore 6, 2) := by decide +kernel
theorem dX6_alike_26 : decode cX6_alike 26 = .ok (.iconst 0, 1) := by decide +kernel
theorem dX6_alike_27 : decode cX6_alike 27 = .ok (.istore 7, 2) := by decide +kernel
theorem dX6_alike_29 : decode cX6_alike 29 = .ok (.iload 7, 2) := by decide +kernel
theorem dX6_alike_31 : decode cX6_alike 31 = .ok (.iload_n 2, 1) := by decide +kernel
theorem dX6_alike_32 : decode cX6_alike 32 = .ok (.if_icmp .ge 48, 3) := by decide +kernel
theorem dX6_alike_35 : decode cX6_alike 35 = .ok (.iload 7, 2) := by decide +kernel
theorem dX6_alike_37 : decode cX6_alike 37 = .ok (.i2l, 1) := by decide +kernel
theorem dX6_alike_38 : decode cX6_alike 38 = .ok (.iload_n 2, 1) := by decide +kernel
theorem dX6_alike_39 : decode cX6_alike 39 = .ok (.i2l, 1) := by decide +kernel
theorem dX6_alike_40 : decode cX6_alike 40 = .ok (.invokestatic 106, 3) := by decide +kernel
theorem dX6_alike_43 : decode cX6_alike 43 = .ok (.lconst 1, 1) := by decide +kernel
theorem dX6_alike_44 : decode cX6_alike 44 = .ok (.lcmp, 1) := by decide +kernel
theorem dX6_alike_45 : decode cX6_alike 45 = .ok (.ifCond .ne 29, 3) := by decide +kernel
theorem dX6_alike_48 : decode cX6_alike 48 = .ok (.iload 7, 2) := by decide +kernel
theorem dX6_alike_50 : decode cX6_alike 50 = .ok (.i2l, 1) := by decide +kernel
theorem dX6_alike_51 : decode cX6_alike 51 = .ok (.iload_n 2, 1) := by decide +kernel
theorem dX6_alike_52 : decode cX6_alike 52 = .ok (.i2l, 1) := by decide +kernel
theorem dX6_alike_53 : decode cX6_alike 53 = .ok (.invokestatic 89, 3) := by decide +kernel
theorem dX6_alike_56 : decode cX6_alike 56 = .ok (.lload 4, 2) := by decide +kernel
theorem dX6_alike_58 : decode cX6_alike 58 = .ok (.lcmp, 1) := by decide +kernel
theorem dX6_alike_59 : decode cX6_alike 59 = .ok (.ifCond .ne 15, 3) := by decide +kernel
theorem dX6_alike_62 : decode cX6_alike 62 = .ok (.iload 6, 2) := by decide +kernel
theorem dX6_alike_64 : decode cX6_alike 64 = .ok (.iload_n 3, 1) := by decide +kernel
theorem dX6_alike_65 : decode cX6_alike 65 = .ok (.if_icmp .ne 6, 3) := by decide +kernel
theorem dX6_alike_68 : decode cX6_alike 68 = .ok (.iload 7, 2) := by decide +kernel
theorem dX6_alike_70 : decode cX6_alike 70 = .ok (.ireturn, 1) := by decide +kernel
theorem dX6_alike_71 : decode cX6_alike 71 = .ok (.iinc 6 1, 3) := by decide +kernel
theorem dX6_alike_74 : decode cX6_alike 74 = .ok (.iinc 7 1, 3) := by decide +kernel
theorem dX6_alike_77 : decode cX6_alike 77 = .ok (.goto (-48), 3) := by decide +kernel
theorem dX6_alike_80 : decode cX6_alike 80 = .ok (.iload_n 3, 1) := by decide +kernel
theorem dX6_alike_81 : decode cX6_alike 81 = .ok (.iconst (-1), 1) := by decide +kernel
theorem dX6_alike_82 : decode cX6_alike 82 = .ok (.if_icmp .ne 8, 3) := by decide +kernel
theorem dX6_alike_85 : decode cX6_alike 85 = .ok (.iload 6, 2) := by decide +kernel
theorem dX6_alike_87 : decode cX6_alike 87 = .ok (.goto 4, 3) := by decide +kernel
theorem dX6_alike_90 : decode cX6_alike 90 = .ok (.iconst (-1), 1) := by decide +kernel
theorem dX6_alike_91 : decode cX6_alike 91 = .ok (.ireturn, 1) := by decide +kernel
set_option maxRecDepth 20000 in
theorem ggX6_sorts_X6_lies : GoodIn wsX6_sorts wsX6_lies := goodIn_r _ [5] (by decide +kernel) (by decide +kernel)
set_option maxRecDepth 20000 in
theorem gX6_sorts_X6_lies : GoodIn wsX6_sorts (va_wsS RX6 63 yX6_lies wsX6_lies) := goodIn_app (goodIn_of _ (by decide +kernel)) ggX6_sorts_X6_lies
set_option maxRecDepth 20000 in
theorem ggX6_sorts_X6_unlikeSums : GoodIn wsX6_sorts wsX6_unlikeSums := goodIn_r _ [9, 10, 11, 12, 13, 14, 15, 16, 17, 18, 19, 20, 21, 22, 23, 24, 25, 26, 27, 28, 29, 30, 31, 32, 33, 34, 35, 39, 40, 41, 42, 43, 44, 45, 46, 47] (by decide +kernel) (by decide +kernel)
set_option maxRecDepth 20000 in
theorem gX6_sorts_X6_unlikeSums : GoodIn wsX6_sorts (wsV RX6 117 RX6 yX6_unlikeSums wsX6_unlikeSums) := goodIn_app (goodIn_of _ (by decide +kernel)) ggX6_sorts_X6_unlikeSums
set_option maxRecDepth 20000 in
theorem ggX6_sorts_X6_firstWithGreatestSum : GoodIn wsX6_sorts wsX6_firstWithGreatestSum := goodIn_r _ [38, 11, 12, 13, 14, 15, 16, 17, 18, 19, 20, 21, 22, 23, 24, 25, 26, 27, 28, 29] (by decide +kernel) (by decide +kernel)
set_option maxRecDepth 20000 in
theorem gX6_sorts_X6_firstWithGreatestSum : GoodIn wsX6_sorts (va_wsS RX6 120 yX6_firstWithGreatestSum wsX6_firstWithGreatestSum) := goodIn_app (goodIn_of _ (by decide +kernel)) ggX6_sorts_X6_firstWithGreatestSum
theorem dX6_sorts_0 : decode cX6_sorts 0 = .ok (.iload_n 1, 1) := by decide +kernel
theorem dX6_sorts_1 : decode cX6_sorts 1 = .ok (.i2l, 1) := by decide +kernel
theorem dX6_sorts_2 : decode cX6_sorts 2 = .ok (.lconst 1, 1) := by decide +kernel
theorem dX6_sorts_3 : decode cX6_sorts 3 = .ok (.ldc2_w 115, 3) := by decide +kernel
theorem dX6_sorts_6 : decode cX6_sorts 6 = .ok (.invokestatic 63, 3) := by decide +kernel
theorem dX6_sorts_9 : decode cX6_sorts 9 = .ok (.ifCond .ne 5, 3) := by decide +kernel
theorem dX6_sorts_12 : decode cX6_sorts 12 = .ok (.iconst (-1), 1) := by decide +kernel
theorem dX6_sorts_13 : decode cX6_sorts 13 = .ok (.ireturn, 1) := by decide +kernel
theorem dX6_sorts_14 : decode cX6_sorts 14 = .ok (.iload_n 2, 1) := by decide +kernel
theorem dX6_sorts_15 : decode cX6_sorts 15 = .ok (.lookupswitch 36 #[(0, 25), (1, 31)], 25) := by decide +kernel
theorem dX6_sorts_40 : decode cX6_sorts 40 = .ok (.aload_n 0, 1) := by decide +kernel
theorem dX6_sorts_41 : decode cX6_sorts 41 = .ok (.iload_n 1, 1) := by decide +kernel
theorem dX6_sorts_42 : decode cX6_sorts 42 = .ok (.invokevirtual 117, 3) := by decide +kernel
theorem dX6_sorts_45 : decode cX6_sorts 45 = .ok (.ireturn, 1) := by decide +kernel
theorem dX6_sorts_46 : decode cX6_sorts 46 = .ok (.iload_n 1, 1) := by decide +kernel
theorem dX6_sorts_47 : decode cX6_sorts 47 = .ok (.invokestatic 120, 3) := by decide +kernel
theorem dX6_sorts_50 : decode cX6_sorts 50 = .ok (.ireturn, 1) := by decide +kernel
theorem dX6_sorts_51 : decode cX6_sorts 51 = .ok (.iconst (-1), 1) := by decide +kernel
theorem dX6_sorts_52 : decode cX6_sorts 52 = .ok (.ireturn, 1) := by decide +kernel
set_option maxRecDepth 20000 in
theorem ggX6_unlikeSums_X5_divisor : GoodIn wsX6_unlikeSums wsX5_divisor := goodIn_r _ [5, 6, 7, 8, 9, 10, 11, 12] (by decide +kernel) (by decide +kernel)
set_option maxRecDepth 20000 in
theorem gX6_unlikeSums_X5_divisor : GoodIn wsX6_unlikeSums (va_wsS RX6 106 yX5_divisor wsX5_divisor) := goodIn_app (goodIn_of _ (by decide +kernel)) ggX6_unlikeSums_X5_divisor
set_option maxRecDepth 20000 in
theorem ggX6_unlikeSums_X5_twelfths : GoodIn wsX6_unlikeSums wsX5_twelfths := goodIn_r _ [15, 16, 17, 18, 19, 20] (by decide +kernel) (by decide +kernel)
set_option maxRecDepth 20000 in
theorem gX6_unlikeSums_X5_twelfths : GoodIn wsX6_unlikeSums (va_wsS RX6 89 yX5_twelfths wsX5_twelfths) := goodIn_app (goodIn_of _ (by decide +kernel)) ggX6_unlikeSums_X5_twelfths
set_option maxRecDepth 20000 in
theorem ggX6_unlikeSums_X5_unlike : GoodIn wsX6_unlikeSums wsX5_unlike := goodIn_r _ [23, 24, 25, 4, 26] (by decide +kernel) (by decide +kernel)
set_option maxRecDepth 20000 in
theorem gX6_unlikeSums_X5_unlike : GoodIn wsX6_unlikeSums (va_wsS RX6 123 yX5_unlike wsX5_unlike) := goodIn_app (goodIn_of _ (by decide +kernel)) ggX6_unlikeSums_X5_unlike
theorem dX6_unlikeSums_0 : decode cX6_unlikeSums 0 = .ok (.iconst 0, 1) := by decide +kernel
theorem dX6_unlikeSums_1 : decode cX6_unlikeSums 1 = .ok (.istore_n 2, 1) := by decide +kernel
theorem dX6_unlikeSums_2 : decode cX6_unlikeSums 2 = .ok (.iconst 0, 1) := by decide +kernel
theorem dX6_unlikeSums_3 : decode cX6_unlikeSums 3 = .ok (.istore_n 3, 1) := by decide +kernel
theorem dX6_unlikeSums_4 : decode cX6_unlikeSums 4 = .ok (.iload_n 3, 1) := by decide +kernel
theorem dX6_unlikeSums_5 : decode cX6_unlikeSums 5 = .ok (.iload_n 1, 1) := by decide +kernel
theorem dX6_unlikeSums_6 : decode cX6_unlikeSums 6 = .ok (.if_icmp .ge 46, 3) := by decide +kernel
theorem dX6_unlikeSums_9 : decode cX6_unlikeSums 9 = .ok (.iload_n 2, 1) := by decide +kernel
theorem dX6_unlikeSums_10 : decode cX6_unlikeSums 10 = .ok (.aload_n 0, 1) := by decide +kernel
theorem dX6_unlikeSums_11 : decode cX6_unlikeSums 11 = .ok (.getfield 23, 3) := by decide +kernel
theorem dX6_unlikeSums_14 : decode cX6_unlikeSums 14 = .ok (.arraylength, 1) := by decide +kernel
theorem dX6_unlikeSums_15 : decode cX6_unlikeSums 15 = .ok (.if_icmp .ge 31, 3) := by decide +kernel
theorem dX6_unlikeSums_18 : decode cX6_unlikeSums 18 = .ok (.iload_n 3, 1) := by decide +kernel
theorem dX6_unlikeSums_19 : decode cX6_unlikeSums 19 = .ok (.i2l, 1) := by decide +kernel
theorem dX6_unlikeSums_20 : decode cX6_unlikeSums 20 = .ok (.iload_n 1, 1) := by decide +kernel
theorem dX6_unlikeSums_21 : decode cX6_unlikeSums 21 = .ok (.i2l, 1) := by decide +kernel
theorem dX6_unlikeSums_22 : decode cX6_unlikeSums 22 = .ok (.invokestatic 106, 3) := by decide +kernel
theorem dX6_unlikeSums_25 : decode cX6_unlikeSums 25 = .ok (.lconst 1, 1) := by decide +kernel
theorem dX6_unlikeSums_26 : decode cX6_unlikeSums 26 = .ok (.lcmp, 1) := by decide +kernel
theorem dX6_unlikeSums_27 : decode cX6_unlikeSums 27 = .ok (.ifCond .ne 19, 3) := by decide +kernel
theorem dX6_unlikeSums_30 : decode cX6_unlikeSums 30 = .ok (.aload_n 0, 1) := by decide +kernel
theorem dX6_unlikeSums_31 : decode cX6_unlikeSums 31 = .ok (.getfield 23, 3) := by decide +kernel
theorem dX6_unlikeSums_34 : decode cX6_unlikeSums 34 = .ok (.iload_n 2, 1) := by decide +kernel
theorem dX6_unlikeSums_35 : decode cX6_unlikeSums 35 = .ok (.iload_n 3, 1) := by decide +kernel
theorem dX6_unlikeSums_36 : decode cX6_unlikeSums 36 = .ok (.i2l, 1) := by decide +kernel
theorem dX6_unlikeSums_37 : decode cX6_unlikeSums 37 = .ok (.iload_n 1, 1) := by decide +kernel
theorem dX6_unlikeSums_38 : decode cX6_unlikeSums 38 = .ok (.i2l, 1) := by decide +kernel
theorem dX6_unlikeSums_39 : decode cX6_unlikeSums 39 = .ok (.invokestatic 89, 3) := by decide +kernel
theorem dX6_unlikeSums_42 : decode cX6_unlikeSums 42 = .ok (.lastore, 1) := by decide +kernel
theorem dX6_unlikeSums_43 : decode cX6_unlikeSums 43 = .ok (.iinc 2 1, 3) := by decide +kernel
theorem dX6_unlikeSums_46 : decode cX6_unlikeSums 46 = .ok (.iinc 3 1, 3) := by decide +kernel
theorem dX6_unlikeSums_49 : decode cX6_unlikeSums 49 = .ok (.goto (-45), 3) := by decide +kernel
theorem dX6_unlikeSums_52 : decode cX6_unlikeSums 52 = .ok (.aload_n 0, 1) := by decide +kernel
theorem dX6_unlikeSums_53 : decode cX6_unlikeSums 53 = .ok (.getfield 23, 3) := by decide +kernel
theorem dX6_unlikeSums_56 : decode cX6_unlikeSums 56 = .ok (.iload_n 2, 1) := by decide +kernel
theorem dX6_unlikeSums_57 : decode cX6_unlikeSums 57 = .ok (.invokestatic 123, 3) := by decide +kernel
theorem dX6_unlikeSums_60 : decode cX6_unlikeSums 60 = .ok (.ireturn, 1) := by decide +kernel
set_option maxRecDepth 20000 in
theorem ggX6_firstWithGreatestSum_X5_divisor : GoodIn wsX6_firstWithGreatestSum wsX5_divisor := goodIn_r _ [4, 5, 6, 7, 8, 9, 10, 11] (by decide +kernel) (by decide +kernel)
set_option maxRecDepth 20000 in
theorem gX6_firstWithGreatestSum_X5_divisor : GoodIn wsX6_firstWithGreatestSum (va_wsS RX6 106 yX5_divisor wsX5_divisor) := goodIn_app (goodIn_of _ (by decide +kernel)) ggX6_firstWithGreatestSum_X5_divisor
set_option maxRecDepth 20000 in
theorem ggX6_firstWithGreatestSum_X5_twelfths : GoodIn wsX6_firstWithGreatestSum wsX5_twelfths := goodIn_r _ [14, 15, 16, 17, 18, 19] (by decide +kernel) (by decide +kernel)
set_option maxRecDepth 20000 in
theorem gX6_firstWithGreatestSum_X5_twelfths : GoodIn wsX6_firstWithGreatestSum (va_wsS RX6 89 yX5_twelfths wsX5_twelfths) := goodIn_app (goodIn_of _ (by decide +kernel)) ggX6_firstWithGreatestSum_X5_twelfths
theorem dX6_firstWithGreatestSum_0 : decode cX6_firstWithGreatestSum 0 = .ok (.iconst (-1), 1) := by decide +kernel
theorem dX6_firstWithGreatestSum_1 : decode cX6_firstWithGreatestSum 1 = .ok (.istore_n 1, 1) := by decide +kernel
theorem dX6_firstWithGreatestSum_2 : decode cX6_firstWithGreatestSum 2 = .ok (.lconst 0, 1) := by decide +kernel
theorem dX6_firstWithGreatestSum_3 : decode cX6_firstWithGreatestSum 3 = .ok (.lstore_n 2, 1) := by decide +kernel
theorem dX6_firstWithGreatestSum_4 : decode cX6_firstWithGreatestSum 4 = .ok (.iconst 0, 1) := by decide +kernel
theorem dX6_firstWithGreatestSum_5 : decode cX6_firstWithGreatestSum 5 = .ok (.istore 4, 2) := by decide +kernel
theorem dX6_firstWithGreatestSum_7 : decode cX6_firstWithGreatestSum 7 = .ok (.iload 4, 2) := by decide +kernel
theorem dX6_firstWithGreatestSum_9 : decode cX6_firstWithGreatestSum 9 = .ok (.iload_n 0, 1) := by decide +kernel
theorem dX6_firstWithGreatestSum_10 : decode cX6_firstWithGreatestSum 10 = .ok (.if_icmp .ge 50, 3) := by decide +kernel
theorem dX6_firstWithGreatestSum_13 : decode cX6_firstWithGreatestSum 13 = .ok (.iload 4, 2) := by decide +kernel
theorem dX6_firstWithGreatestSum_15 : decode cX6_firstWithGreatestSum 15 = .ok (.i2l, 1) := by decide +kernel
theorem dX6_firstWithGreatestSum_16 : decode cX6_firstWithGreatestSum 16 = .ok (.iload_n 0, 1) := by decide +kernel
theorem dX6_firstWithGreatestSum_17 : decode cX6_firstWithGreatestSum 17 = .ok (.i2l, 1) := by decide +kernel
theorem dX6_firstWithGreatestSum_18 : decode cX6_firstWithGreatestSum 18 = .ok (.invokestatic 106, 3) := by decide +kernel
theorem dX6_firstWithGreatestSum_21 : decode cX6_firstWithGreatestSum 21 = .ok (.lconst 1, 1) := by decide +kernel
theorem dX6_firstWithGreatestSum_22 : decode cX6_firstWithGreatestSum 22 = .ok (.lcmp, 1) := by decide +kernel
theorem dX6_firstWithGreatestSum_23 : decode cX6_firstWithGreatestSum 23 = .ok (.ifCond .ne 31, 3) := by decide +kernel
theorem dX6_firstWithGreatestSum_26 : decode cX6_firstWithGreatestSum 26 = .ok (.iload 4, 2) := by decide +kernel
theorem dX6_firstWithGreatestSum_28 : decode cX6_firstWithGreatestSum 28 = .ok (.i2l, 1) := by decide +kernel
theorem dX6_firstWithGreatestSum_29 : decode cX6_firstWithGreatestSum 29 = .ok (.iload_n 0, 1) := by decide +kernel
theorem dX6_firstWithGreatestSum_30 : decode cX6_firstWithGreatestSum 30 = .ok (.i2l, 1) := by decide +kernel
theorem dX6_firstWithGreatestSum_31 : decode cX6_firstWithGreatestSum 31 = .ok (.invokestatic 89, 3) := by decide +kernel
theorem dX6_firstWithGreatestSum_34 : decode cX6_firstWithGreatestSum 34 = .ok (.lstore 5, 2) := by decide +kernel
theorem dX6_firstWithGreatestSum_36 : decode cX6_firstWithGreatestSum 36 = .ok (.iload_n 1, 1) := by decide +kernel
theorem dX6_firstWithGreatestSum_37 : decode cX6_firstWithGreatestSum 37 = .ok (.iconst (-1), 1) := by decide +kernel
theorem dX6_firstWithGreatestSum_38 : decode cX6_firstWithGreatestSum 38 = .ok (.if_icmp .eq 10, 3) := by decide +kernel
theorem dX6_firstWithGreatestSum_41 : decode cX6_firstWithGreatestSum 41 = .ok (.lload 5, 2) := by decide +kernel
theorem dX6_firstWithGreatestSum_43 : decode cX6_firstWithGreatestSum 43 = .ok (.lload_n 2, 1) := by decide +kernel
theorem dX6_firstWithGreatestSum_44 : decode cX6_firstWithGreatestSum 44 = .ok (.lcmp, 1) := by decide +kernel
theorem dX6_firstWithGreatestSum_45 : decode cX6_firstWithGreatestSum 45 = .ok (.ifCond .le 9, 3) := by decide +kernel
theorem dX6_firstWithGreatestSum_48 : decode cX6_firstWithGreatestSum 48 = .ok (.iload 4, 2) := by decide +kernel
theorem dX6_firstWithGreatestSum_50 : decode cX6_firstWithGreatestSum 50 = .ok (.istore_n 1, 1) := by decide +kernel
theorem dX6_firstWithGreatestSum_51 : decode cX6_firstWithGreatestSum 51 = .ok (.lload 5, 2) := by decide +kernel
theorem dX6_firstWithGreatestSum_53 : decode cX6_firstWithGreatestSum 53 = .ok (.lstore_n 2, 1) := by decide +kernel
theorem dX6_firstWithGreatestSum_54 : decode cX6_firstWithGreatestSum 54 = .ok (.iinc 4 1, 3) := by decide +kernel
theorem dX6_firstWithGreatestSum_57 : decode cX6_firstWithGreatestSum 57 = .ok (.goto (-50), 3) := by decide +kernel
theorem dX6_firstWithGreatestSum_60 : decode cX6_firstWithGreatestSum 60 = .ok (.iload_n 1, 1) := by decide +kernel
theorem dX6_firstWithGreatestSum_61 : decode cX6_firstWithGreatestSum 61 = .ok (.ireturn, 1) := by decide +kernel
set_option maxRecDepth 20000 in
theorem ggX6_steps_X6_lies : GoodIn wsX6_steps wsX6_lies := goodIn_r _ [8] (by decide +kernel) (by decide +kernel)
set_option maxRecDepth 20000 in
theorem gX6_steps_X6_lies : GoodIn wsX6_steps (va_wsS RX6 63 yX6_lies wsX6_lies) := goodIn_app (goodIn_of _ (by decide +kernel)) ggX6_steps_X6_lies
set_option maxRecDepth 20000 in
theorem ggX6_steps_X5_floorSum : GoodIn wsX6_steps wsX5_floorSum := goodIn_r _ [12, 13, 14, 15, 16, 17, 18, 19, 20] (by decide +kernel) (by decide +kernel)
set_option maxRecDepth 20000 in
theorem gX6_steps_X5_floorSum : GoodIn wsX6_steps (va_wsS RX6 133 yX5_floorSum wsX5_floorSum) := goodIn_app (goodIn_of _ (by decide +kernel)) ggX6_steps_X5_floorSum
theorem dX6_steps_0 : decode cX6_steps 0 = .ok (.iload_n 1, 1) := by decide +kernel
theorem dX6_steps_1 : decode cX6_steps 1 = .ok (.i2l, 1) := by decide +kernel
theorem dX6_steps_2 : decode cX6_steps 2 = .ok (.ldc2_w 127, 3) := by decide +kernel
theorem dX6_steps_5 : decode cX6_steps 5 = .ok (.ldc2_w 129, 3) := by decide +kernel
theorem dX6_steps_8 : decode cX6_steps 8 = .ok (.invokestatic 63, 3) := by decide +kernel
theorem dX6_steps_11 : decode cX6_steps 11 = .ok (.ifCond .eq 42, 3) := by decide +kernel
theorem dX6_steps_14 : decode cX6_steps 14 = .ok (.iload_n 2, 1) := by decide +kernel
theorem dX6_steps_15 : decode cX6_steps 15 = .ok (.i2l, 1) := by decide +kernel
theorem dX6_steps_16 : decode cX6_steps 16 = .ok (.ldc2_w 127, 3) := by decide +kernel
theorem dX6_steps_19 : decode cX6_steps 19 = .ok (.ldc2_w 129, 3) := by decide +kernel
theorem dX6_steps_22 : decode cX6_steps 22 = .ok (.invokestatic 63, 3) := by decide +kernel
theorem dX6_steps_25 : decode cX6_steps 25 = .ok (.ifCond .eq 28, 3) := by decide +kernel
theorem dX6_steps_28 : decode cX6_steps 28 = .ok (.iload_n 3, 1) := by decide +kernel
theorem dX6_steps_29 : decode cX6_steps 29 = .ok (.i2l, 1) := by decide +kernel
theorem dX6_steps_30 : decode cX6_steps 30 = .ok (.lconst 1, 1) := by decide +kernel
theorem dX6_steps_31 : decode cX6_steps 31 = .ok (.ldc2_w 129, 3) := by decide +kernel
theorem dX6_steps_34 : decode cX6_steps 34 = .ok (.invokestatic 63, 3) := by decide +kernel
theorem dX6_steps_37 : decode cX6_steps 37 = .ok (.ifCond .eq 16, 3) := by decide +kernel
theorem dX6_steps_40 : decode cX6_steps 40 = .ok (.iload 4, 2) := by decide +kernel
theorem dX6_steps_42 : decode cX6_steps 42 = .ok (.i2l, 1) := by decide +kernel
theorem dX6_steps_43 : decode cX6_steps 43 = .ok (.lconst 0, 1) := by decide +kernel
theorem dX6_steps_44 : decode cX6_steps 44 = .ok (.ldc2_w 131, 3) := by decide +kernel
theorem dX6_steps_47 : decode cX6_steps 47 = .ok (.invokestatic 63, 3) := by decide +kernel
theorem dX6_steps_50 : decode cX6_steps 50 = .ok (.ifCond .ne 7, 3) := by decide +kernel
theorem dX6_steps_53 : decode cX6_steps 53 = .ok (.ldc2_w 67, 3) := by decide +kernel
theorem dX6_steps_56 : decode cX6_steps 56 = .ok (.lreturn, 1) := by decide +kernel
theorem dX6_steps_57 : decode cX6_steps 57 = .ok (.iload_n 1, 1) := by decide +kernel
theorem dX6_steps_58 : decode cX6_steps 58 = .ok (.i2l, 1) := by decide +kernel
theorem dX6_steps_59 : decode cX6_steps 59 = .ok (.iload_n 2, 1) := by decide +kernel
theorem dX6_steps_60 : decode cX6_steps 60 = .ok (.i2l, 1) := by decide +kernel
theorem dX6_steps_61 : decode cX6_steps 61 = .ok (.iload_n 3, 1) := by decide +kernel
theorem dX6_steps_62 : decode cX6_steps 62 = .ok (.i2l, 1) := by decide +kernel
theorem dX6_steps_63 : decode cX6_steps 63 = .ok (.iload 4, 2) := by decide +kernel
theorem dX6_steps_65 : decode cX6_steps 65 = .ok (.i2l, 1) := by decide +kernel
theorem dX6_steps_66 : decode cX6_steps 66 = .ok (.invokestatic 133, 3) := by decide +kernel
theorem dX6_steps_69 : decode cX6_steps 69 = .ok (.lreturn, 1) := by decide +kernel
set_option maxRecDepth 20000 in
theorem ggX6_triangle_X6_isTriangle : GoodIn wsX6_triangle wsX6_isTriangle := goodIn_r _ [5, 6, 7, 8, 9, 4, 10] (by decide +kernel) (by decide +kernel)
set_option maxRecDepth 20000 in
theorem gX6_triangle_X6_isTriangle : GoodIn wsX6_triangle (va_wsS RX6 137 yX6_isTriangle wsX6_isTriangle) := goodIn_app (goodIn_of _ (by decide +kernel)) ggX6_triangle_X6_isTriangle
set_option maxRecDepth 20000 in
theorem ggX6_triangle_X5_pointsBelow : GoodIn wsX6_triangle wsX5_pointsBelow := goodIn_r _ [14, 15, 16, 13, 17, 18, 19, 20, 21, 22, 23, 24, 25] (by decide +kernel) (by decide +kernel)
set_option maxRecDepth 20000 in
theorem gX6_triangle_X5_pointsBelow : GoodIn wsX6_triangle (va_wsS RX6 140 yX5_pointsBelow wsX5_pointsBelow) := goodIn_app (goodIn_of _ (by decide +kernel)) ggX6_triangle_X5_pointsBelow
theorem dX6_triangle_0 : decode cX6_triangle 0 = .ok (.iload_n 1, 1) := by decide +kernel
theorem dX6_triangle_1 : decode cX6_triangle 1 = .ok (.iload_n 2, 1) := by decide +kernel
theorem dX6_triangle_2 : decode cX6_triangle 2 = .ok (.iload_n 3, 1) := by decide +kernel
theorem dX6_triangle_3 : decode cX6_triangle 3 = .ok (.invokestatic 137, 3) := by decide +kernel
theorem dX6_triangle_6 : decode cX6_triangle 6 = .ok (.ifCond .eq 15, 3) := by decide +kernel
theorem dX6_triangle_9 : decode cX6_triangle 9 = .ok (.iload_n 1, 1) := by decide +kernel
theorem dX6_triangle_10 : decode cX6_triangle 10 = .ok (.i2l, 1) := by decide +kernel
theorem dX6_triangle_11 : decode cX6_triangle 11 = .ok (.iload_n 2, 1) := by decide +kernel
theorem dX6_triangle_12 : decode cX6_triangle 12 = .ok (.i2l, 1) := by decide +kernel
theorem dX6_triangle_13 : decode cX6_triangle 13 = .ok (.iload_n 3, 1) := by decide +kernel
theorem dX6_triangle_14 : decode cX6_triangle 14 = .ok (.i2l, 1) := by decide +kernel
theorem dX6_triangle_15 : decode cX6_triangle 15 = .ok (.invokestatic 140, 3) := by decide +kernel
theorem dX6_triangle_18 : decode cX6_triangle 18 = .ok (.goto 6, 3) := by decide +kernel
theorem dX6_triangle_21 : decode cX6_triangle 21 = .ok (.ldc2_w 67, 3) := by decide +kernel
theorem dX6_triangle_24 : decode cX6_triangle 24 = .ok (.lreturn, 1) := by decide +kernel
set_option maxRecDepth 20000 in
theorem ggX6_inside_X6_isTriangle : GoodIn wsX6_inside wsX6_isTriangle := goodIn_r _ [5, 6, 7, 8, 9, 4, 10] (by decide +kernel) (by decide +kernel)
set_option maxRecDepth 20000 in
theorem gX6_inside_X6_isTriangle : GoodIn wsX6_inside (va_wsS RX6 137 yX6_isTriangle wsX6_isTriangle) := goodIn_app (goodIn_of _ (by decide +kernel)) ggX6_inside_X6_isTriangle
set_option maxRecDepth 20000 in
theorem ggX6_inside_X5_pointsBelow : GoodIn wsX6_inside wsX5_pointsBelow := goodIn_r _ [14, 15, 16, 13, 17, 18, 19, 20, 21, 22, 23, 24, 25] (by decide +kernel) (by decide +kernel)
set_option maxRecDepth 20000 in
theorem gX6_inside_X5_pointsBelow : GoodIn wsX6_inside (va_wsS RX6 140 yX5_pointsBelow wsX5_pointsBelow) := goodIn_app (goodIn_of _ (by decide +kernel)) ggX6_inside_X5_pointsBelow
theorem dX6_inside_0 : decode cX6_inside 0 = .ok (.iload_n 1, 1) := by decide +kernel
theorem dX6_inside_1 : decode cX6_inside 1 = .ok (.iload_n 2, 1) := by decide +kernel
theorem dX6_inside_2 : decode cX6_inside 2 = .ok (.iload_n 3, 1) := by decide +kernel
theorem dX6_inside_3 : decode cX6_inside 3 = .ok (.invokestatic 137, 3) := by decide +kernel
theorem dX6_inside_6 : decode cX6_inside 6 = .ok (.ifCond .eq 23, 3) := by decide +kernel
theorem dX6_inside_9 : decode cX6_inside 9 = .ok (.iload_n 1, 1) := by decide +kernel
theorem dX6_inside_10 : decode cX6_inside 10 = .ok (.i2l, 1) := by decide +kernel
theorem dX6_inside_11 : decode cX6_inside 11 = .ok (.iload_n 2, 1) := by decide +kernel
theorem dX6_inside_12 : decode cX6_inside 12 = .ok (.i2l, 1) := by decide +kernel
theorem dX6_inside_13 : decode cX6_inside 13 = .ok (.iload_n 3, 1) := by decide +kernel
theorem dX6_inside_14 : decode cX6_inside 14 = .ok (.i2l, 1) := by decide +kernel
theorem dX6_inside_15 : decode cX6_inside 15 = .ok (.lconst 1, 1) := by decide +kernel
theorem dX6_inside_16 : decode cX6_inside 16 = .ok (.lsub, 1) := by decide +kernel
theorem dX6_inside_17 : decode cX6_inside 17 = .ok (.iload_n 1, 1) := by decide +kernel
theorem dX6_inside_18 : decode cX6_inside 18 = .ok (.i2l, 1) := by decide +kernel
theorem dX6_inside_19 : decode cX6_inside 19 = .ok (.lsub, 1) := by decide +kernel
theorem dX6_inside_20 : decode cX6_inside 20 = .ok (.iload_n 2, 1) := by decide +kernel
theorem dX6_inside_21 : decode cX6_inside 21 = .ok (.i2l, 1) := by decide +kernel
theorem dX6_inside_22 : decode cX6_inside 22 = .ok (.lsub, 1) := by decide +kernel
theorem dX6_inside_23 : decode cX6_inside 23 = .ok (.invokestatic 140, 3) := by decide +kernel
theorem dX6_inside_26 : decode cX6_inside 26 = .ok (.goto 6, 3) := by decide +kernel
theorem dX6_inside_29 : decode cX6_inside 29 = .ok (.ldc2_w 67, 3) := by decide +kernel
theorem dX6_inside_32 : decode cX6_inside 32 = .ok (.lreturn, 1) := by decide +kernel
set_option maxRecDepth 20000 in
theorem ggX6_isTriangle_X6_lies : GoodIn wsX6_isTriangle wsX6_lies := goodIn_r _ [6] (by decide +kernel) (by decide +kernel)
set_option maxRecDepth 20000 in
theorem gX6_isTriangle_X6_lies : GoodIn wsX6_isTriangle (va_wsS RX6 63 yX6_lies wsX6_lies) := goodIn_app (goodIn_of _ (by decide +kernel)) ggX6_isTriangle_X6_lies
theorem dX6_isTriangle_0 : decode cX6_isTriangle 0 = .ok (.iload_n 0, 1) := by decide +kernel
theorem dX6_isTriangle_1 : decode cX6_isTriangle 1 = .ok (.i2l, 1) := by decide +kernel
theorem dX6_isTriangle_2 : decode cX6_isTriangle 2 = .ok (.lconst 1, 1) := by decide +kernel
theorem dX6_isTriangle_3 : decode cX6_isTriangle 3 = .ok (.ldc2_w 129, 3) := by decide +kernel
theorem dX6_isTriangle_6 : decode cX6_isTriangle 6 = .ok (.invokestatic 63, 3) := by decide +kernel
theorem dX6_isTriangle_9 : decode cX6_isTriangle 9 = .ok (.ifCond .eq 31, 3) := by decide +kernel
theorem dX6_isTriangle_12 : decode cX6_isTriangle 12 = .ok (.iload_n 1, 1) := by decide +kernel
theorem dX6_isTriangle_13 : decode cX6_isTriangle 13 = .ok (.i2l, 1) := by decide +kernel
theorem dX6_isTriangle_14 : decode cX6_isTriangle 14 = .ok (.lconst 1, 1) := by decide +kernel
theorem dX6_isTriangle_15 : decode cX6_isTriangle 15 = .ok (.ldc2_w 129, 3) := by decide +kernel
theorem dX6_isTriangle_18 : decode cX6_isTriangle 18 = .ok (.invokestatic 63, 3) := by decide +kernel
theorem dX6_isTriangle_21 : decode cX6_isTriangle 21 = .ok (.ifCond .eq 19, 3) := by decide +kernel
theorem dX6_isTriangle_24 : decode cX6_isTriangle 24 = .ok (.iload_n 2, 1) := by decide +kernel
theorem dX6_isTriangle_25 : decode cX6_isTriangle 25 = .ok (.i2l, 1) := by decide +kernel
theorem dX6_isTriangle_26 : decode cX6_isTriangle 26 = .ok (.lconst 0, 1) := by decide +kernel
theorem dX6_isTriangle_27 : decode cX6_isTriangle 27 = .ok (.ldc2_w 61, 3) := by decide +kernel
theorem dX6_isTriangle_30 : decode cX6_isTriangle 30 = .ok (.invokestatic 63, 3) := by decide +kernel
theorem dX6_isTriangle_33 : decode cX6_isTriangle 33 = .ok (.ifCond .eq 7, 3) := by decide +kernel
theorem dX6_isTriangle_36 : decode cX6_isTriangle 36 = .ok (.iconst 1, 1) := by decide +kernel
theorem dX6_isTriangle_37 : decode cX6_isTriangle 37 = .ok (.goto 4, 3) := by decide +kernel
theorem dX6_isTriangle_40 : decode cX6_isTriangle 40 = .ok (.iconst 0, 1) := by decide +kernel
theorem dX6_isTriangle_41 : decode cX6_isTriangle 41 = .ok (.ireturn, 1) := by decide +kernel
set_option maxRecDepth 20000 in
theorem ggX6_pyramid_X6_lies : GoodIn wsX6_pyramid wsX6_lies := goodIn_r _ [6] (by decide +kernel) (by decide +kernel)
set_option maxRecDepth 20000 in
theorem gX6_pyramid_X6_lies : GoodIn wsX6_pyramid (va_wsS RX6 63 yX6_lies wsX6_lies) := goodIn_app (goodIn_of _ (by decide +kernel)) ggX6_pyramid_X6_lies
set_option maxRecDepth 20000 in
theorem ggX6_pyramid_X5_pointsBelow : GoodIn wsX6_pyramid wsX5_pointsBelow := goodIn_r _ [10, 11, 12, 9, 13, 14, 15, 16, 17, 18, 19, 20, 21] (by decide +kernel) (by decide +kernel)
set_option maxRecDepth 20000 in
theorem gX6_pyramid_X5_pointsBelow : GoodIn wsX6_pyramid (va_wsS RX6 140 yX5_pointsBelow wsX5_pointsBelow) := goodIn_app (goodIn_of _ (by decide +kernel)) ggX6_pyramid_X5_pointsBelow
theorem dX6_pyramid_0 : decode cX6_pyramid 0 = .ok (.iload_n 1, 1) := by decide +kernel
theorem dX6_pyramid_1 : decode cX6_pyramid 1 = .ok (.i2l, 1) := by decide +kernel
theorem dX6_pyramid_2 : decode cX6_pyramid 2 = .ok (.lconst 1, 1) := by decide +kernel
theorem dX6_pyramid_3 : decode cX6_pyramid 3 = .ok (.ldc2_w 144, 3) := by decide +kernel
theorem dX6_pyramid_6 : decode cX6_pyramid 6 = .ok (.invokestatic 63, 3) := by decide +kernel
theorem dX6_pyramid_9 : decode cX6_pyramid 9 = .ok (.ifCond .eq 27, 3) := by decide +kernel
theorem dX6_pyramid_12 : decode cX6_pyramid 12 = .ok (.iload_n 2, 1) := by decide +kernel
theorem dX6_pyramid_13 : decode cX6_pyramid 13 = .ok (.i2l, 1) := by decide +kernel
theorem dX6_pyramid_14 : decode cX6_pyramid 14 = .ok (.lconst 1, 1) := by decide +kernel
theorem dX6_pyramid_15 : decode cX6_pyramid 15 = .ok (.ldc2_w 144, 3) := by decide +kernel
theorem dX6_pyramid_18 : decode cX6_pyramid 18 = .ok (.invokestatic 63, 3) := by decide +kernel
theorem dX6_pyramid_21 : decode cX6_pyramid 21 = .ok (.ifCond .eq 15, 3) := by decide +kernel
theorem dX6_pyramid_24 : decode cX6_pyramid 24 = .ok (.iload_n 3, 1) := by decide +kernel
theorem dX6_pyramid_25 : decode cX6_pyramid 25 = .ok (.i2l, 1) := by decide +kernel
theorem dX6_pyramid_26 : decode cX6_pyramid 26 = .ok (.lconst 1, 1) := by decide +kernel
theorem dX6_pyramid_27 : decode cX6_pyramid 27 = .ok (.ldc2_w 144, 3) := by decide +kernel
theorem dX6_pyramid_30 : decode cX6_pyramid 30 = .ok (.invokestatic 63, 3) := by decide +kernel
theorem dX6_pyramid_33 : decode cX6_pyramid 33 = .ok (.ifCond .ne 7, 3) := by decide +kernel
theorem dX6_pyramid_36 : decode cX6_pyramid 36 = .ok (.ldc2_w 67, 3) := by decide +kernel
theorem dX6_pyramid_39 : decode cX6_pyramid 39 = .ok (.lreturn, 1) := by decide +kernel
theorem dX6_pyramid_40 : decode cX6_pyramid 40 = .ok (.lconst 0, 1) := by decide +kernel
theorem dX6_pyramid_41 : decode cX6_pyramid 41 = .ok (.lstore 4, 2) := by decide +kernel
theorem dX6_pyramid_43 : decode cX6_pyramid 43 = .ok (.iconst 0, 1) := by decide +kernel
theorem dX6_pyramid_44 : decode cX6_pyramid 44 = .ok (.istore 6, 2) := by decide +kernel
theorem dX6_pyramid_46 : decode cX6_pyramid 46 = .ok (.iload 6, 2) := by decide +kernel
theorem dX6_pyramid_48 : decode cX6_pyramid 48 = .ok (.iload_n 1, 1) := by decide +kernel
theorem dX6_pyramid_49 : decode cX6_pyramid 49 = .ok (.if_icmp .gt 36, 3) := by decide +kernel
theorem dX6_pyramid_52 : decode cX6_pyramid 52 = .ok (.lload 4, 2) := by decide +kernel
theorem dX6_pyramid_54 : decode cX6_pyramid 54 = .ok (.iload_n 1, 1) := by decide +kernel
theorem dX6_pyramid_55 : decode cX6_pyramid 55 = .ok (.i2l, 1) := by decide +kernel
theorem dX6_pyramid_56 : decode cX6_pyramid 56 = .ok (.iload_n 3, 1) := by decide +kernel
theorem dX6_pyramid_57 : decode cX6_pyramid 57 = .ok (.i2l, 1) := by decide +kernel
theorem dX6_pyramid_58 : decode cX6_pyramid 58 = .ok (.lmul, 1) := by decide +kernel
theorem dX6_pyramid_59 : decode cX6_pyramid 59 = .ok (.iload_n 1, 1) := by decide +kernel
theorem dX6_pyramid_60 : decode cX6_pyramid 60 = .ok (.i2l, 1) := by decide +kernel
theorem dX6_pyramid_61 : decode cX6_pyramid 61 = .ok (.iload_n 2, 1) := by decide +kernel
theorem dX6_pyramid_62 : decode cX6_pyramid 62 = .ok (.i2l, 1) := by decide +kernel
theorem dX6_pyramid_63 : decode cX6_pyramid 63 = .ok (.lmul, 1) := by decide +kernel
theorem dX6_pyramid_64 : decode cX6_pyramid 64 = .ok (.iload 6, 2) := by decide +kernel
theorem dX6_pyramid_66 : decode cX6_pyramid 66 = .ok (.i2l, 1) := by decide +kernel
theorem dX6_pyramid_67 : decode cX6_pyramid 67 = .ok (.iload_n 2, 1) := by decide +kernel
theorem dX6_pyramid_68 : decode cX6_pyramid 68 = .ok (.i2l, 1) := by decide +kernel
theorem dX6_pyramid_69 : decode cX6_pyramid 69 = .ok (.lmul, 1) := by decide +kernel
theorem dX6_pyramid_70 : decode cX6_pyramid 70 = .ok (.iload_n 3, 1) := by decide +kernel
theorem dX6_pyramid_71 : decode cX6_pyramid 71 = .ok (.i2l, 1) := by decide +kernel
theorem dX6_pyramid_72 : decode cX6_pyramid 72 = .ok (.lmul, 1) := by decide +kernel
theorem dX6_pyramid_73 : decode cX6_pyramid 73 = .ok (.invokestatic 140, 3) := by decide +kernel
theorem dX6_pyramid_76 : decode cX6_pyramid 76 = .ok (.ladd, 1) := by decide +kernel
theorem dX6_pyramid_77 : decode cX6_pyramid 77 = .ok (.lstore 4, 2) := by decide +kernel
theorem dX6_pyramid_79 : decode cX6_pyramid 79 = .ok (.iinc 6 1, 3) := by decide +kernel
theorem dX6_pyramid_82 : decode cX6_pyramid 82 = .ok (.goto (-36), 3) := by decide +kernel
theorem dX6_pyramid_85 : decode cX6_pyramid 85 = .ok (.lload 4, 2) := by decide +kernel
theorem dX6_pyramid_87 : decode cX6_pyramid 87 = .ok (.lreturn, 1) := by decide +kernel
theorem dX6_of_0 : decode cX6_of 0 = .ok (.iload_n 1, 1) := by decide +kernel
theorem dX6_of_1 : decode cX6_of 1 = .ok (.tableswitch 63 0 3 #[31, 39, 47, 55], 31) := by decide +kernel
theorem dX6_of_32 : decode cX6_of 32 = .ok (.aload_n 0, 1) := by decide +kernel
theorem dX6_of_33 : decode cX6_of 33 = .ok (.getfield 10, 3) := by decide +kernel
theorem dX6_of_36 : decode cX6_of 36 = .ok (.getfield 146, 3) := by decide +kernel
theorem dX6_of_39 : decode cX6_of 39 = .ok (.ireturn, 1) := by decide +kernel
theorem dX6_of_40 : decode cX6_of 40 = .ok (.aload_n 0, 1) := by decide +kernel
theorem dX6_of_41 : decode cX6_of 41 = .ok (.getfield 10, 3) := by decide +kernel
theorem dX6_of_44 : decode cX6_of 44 = .ok (.getfield 149, 3) := by decide +kernel
theorem dX6_of_47 : decode cX6_of 47 = .ok (.ireturn, 1) := by decide +kernel
theorem dX6_of_48 : decode cX6_of 48 = .ok (.aload_n 0, 1) := by decide +kernel
theorem dX6_of_49 : decode cX6_of 49 = .ok (.getfield 10, 3) := by decide +kernel
theorem dX6_of_52 : decode cX6_of 52 = .ok (.getfield 152, 3) := by decide +kernel
theorem dX6_of_55 : decode cX6_of 55 = .ok (.ireturn, 1) := by decide +kernel
theorem dX6_of_56 : decode cX6_of 56 = .ok (.aload_n 0, 1) := by decide +kernel
theorem dX6_of_57 : decode cX6_of 57 = .ok (.getfield 10, 3) := by decide +kernel
theorem dX6_of_60 : decode cX6_of 60 = .ok (.getfield 155, 3) := by decide +kernel
theorem dX6_of_63 : decode cX6_of 63 = .ok (.ireturn, 1) := by decide +kernel
theorem dX6_of_64 : decode cX6_of 64 = .ok (.new 158, 3) := by decide +kernel
theorem dX6_of_67 : decode cX6_of 67 = .ok (.dup, 1) := by decide +kernel
theorem dX6_of_68 : decode cX6_of 68 = .ok (.ldc 160, 2) := by decide +kernel
theorem dX6_of_70 : decode cX6_of 70 = .ok (.invokespecial 162, 3) := by decide +kernel
theorem dX6_of_73 : decode cX6_of 73 = .ok (.athrow, 1) := by decide +kernel
set_option maxRecDepth 20000 in
theorem ggX6_set_X2_become : GoodIn wsX6_set wsX2_become := goodIn_r _ [6, 7, 8, 9, 10, 11, 12, 5, 13, 14, 15, 16, 17, 18, 28, 29, 30, 31] (by decide +kernel) (by decide +kernel)
set_option maxRecDepth 20000 in
theorem gX6_set_X2_become : GoodIn wsX6_set (wsV RX6 165 RX2 yX2_become wsX2_become) := goodIn_app (goodIn_of _ (by decide +kernel)) ggX6_set_X2_become
theorem dX6_set_0 : decode cX6_set 0 = .ok (.aload_n 0, 1) := by decide +kernel
theorem dX6_set_1 : decode cX6_set 1 = .ok (.getfield 10, 3) := by decide +kernel
theorem dX6_set_4 : decode cX6_set 4 = .ok (.iload_n 1, 1) := by decide +kernel
theorem dX6_set_5 : decode cX6_set 5 = .ok (.i2l, 1) := by decide +kernel
theorem dX6_set_6 : decode cX6_set 6 = .ok (.iload_n 2, 1) := by decide +kernel
theorem dX6_set_7 : decode cX6_set 7 = .ok (.i2l, 1) := by decide +kernel
theorem dX6_set_8 : decode cX6_set 8 = .ok (.iload_n 3, 1) := by decide +kernel
theorem dX6_set_9 : decode cX6_set 9 = .ok (.i2l, 1) := by decide +kernel
theorem dX6_set_10 : decode cX6_set 10 = .ok (.iload 4, 2) := by decide +kernel
theorem dX6_set_12 : decode cX6_set 12 = .ok (.i2l, 1) := by decide +kernel
theorem dX6_set_13 : decode cX6_set 13 = .ok (.invokevirtual 165, 3) := by decide +kernel
theorem dX6_set_16 : decode cX6_set 16 = .ok (.ireturn, 1) := by decide +kernel
set_option maxRecDepth 20000 in
theorem ggX6_turn_X2_multiply : GoodIn wsX6_turn wsX2_multiply := goodIn_r _ [7, 8, 9, 10, 11, 12, 13, 14, 6, 15, 16, 17, 18, 19, 20, 21, 22, 23, 33, 34, 35, 36] (by decide +kernel) (by decide +kernel)
set_option maxRecDepth 20000 in
theorem gX6_turn_X2_multiply : GoodIn wsX6_turn (wsV RX6 171 RX2 yX2_multiply wsX2_multiply) := goodIn_app (goodIn_of _ (by decide +kernel)) ggX6_turn_X2_multiply
theorem dX6_turn_0 : decode cX6_turn 0 = .ok (.aload_n 0, 1) := by decide +kernel
theorem dX6_turn_1 : decode cX6_turn 1 = .ok (.getfield 10, 3) := by decide +kernel
theorem dX6_turn_4 : decode cX6_turn 4 = .ok (.lconst 0, 1) := by decide +kernel
theorem dX6_turn_5 : decode cX6_turn 5 = .ok (.ldc2_w 169, 3) := by decide +kernel
theorem dX6_turn_8 : decode cX6_turn 8 = .ok (.lconst 1, 1) := by decide +kernel
theorem dX6_turn_9 : decode cX6_turn 9 = .ok (.lconst 0, 1) := by decide +kernel
theorem dX6_turn_10 : decode cX6_turn 10 = .ok (.invokevirtual 171, 3) := by decide +kernel
theorem dX6_turn_13 : decode cX6_turn 13 = .ok (.ireturn, 1) := by decide +kernel
set_option maxRecDepth 20000 in
theorem ggX6_shift_X2_multiply : GoodIn wsX6_shift wsX2_multiply := goodIn_r _ [6, 7, 8, 9, 10, 11, 12, 13, 5, 14, 15, 16, 17, 18, 19, 20, 21, 22, 32, 33, 34, 35] (by decide +kernel) (by decide +kernel)
set_option maxRecDepth 20000 in
theorem gX6_shift_X2_multiply : GoodIn wsX6_shift (wsV RX6 171 RX2 yX2_multiply wsX2_multiply) := goodIn_app (goodIn_of _ (by decide +kernel)) ggX6_shift_X2_multiply
theorem dX6_shift_0 : decode cX6_shift 0 = .ok (.aload_n 0, 1) := by decide +kernel
theorem dX6_shift_1 : decode cX6_shift 1 = .ok (.getfield 10, 3) := by decide +kernel
theorem dX6_shift_4 : decode cX6_shift 4 = .ok (.lconst 1, 1) := by decide +kernel
theorem dX6_shift_5 : decode cX6_shift 5 = .ok (.iload_n 1, 1) := by decide +kernel
theorem dX6_shift_6 : decode cX6_shift 6 = .ok (.i2l, 1) := by decide +kernel
theorem dX6_shift_7 : decode cX6_shift 7 = .ok (.lconst 0, 1) := by decide +kernel
theorem dX6_shift_8 : decode cX6_shift 8 = .ok (.lconst 1, 1) := by decide +kernel
theorem dX6_shift_9 : decode cX6_shift 9 = .ok (.invokevirtual 171, 3) := by decide +kernel
theorem dX6_shift_12 : decode cX6_shift 12 = .ok (.ireturn, 1) := by decide +kernel
set_option maxRecDepth 20000 in
theorem ggX6_times_X2_isMatrix : GoodIn wsX6_times wsX2_isMatrix := goodIn_r _ [5, 6, 7, 8, 9, 10] (by decide +kernel) (by decide +kernel)
set_option maxRecDepth 20000 in
theorem gX6_times_X2_isMatrix : GoodIn wsX6_times (va_wsS RX6 174 yX2_isMatrix wsX2_isMatrix) := goodIn_app (goodIn_of _ (by decide +kernel)) ggX6_times_X2_isMatrix
set_option maxRecDepth 20000 in
theorem ggX6_times_X2_multiply : GoodIn wsX6_times wsX2_multiply := goodIn_r _ [14, 15, 16, 17, 18, 19, 20, 21, 4, 22, 23, 3, 5, 6, 7, 8, 9, 10, 33, 34, 35, 36] (by decide +kernel) (by decide +kernel)
set_option maxRecDepth 20000 in
theorem gX6_times_X2_multiply : GoodIn wsX6_times (wsV RX6 171 RX2 yX2_multiply wsX2_multiply) := goodIn_app (goodIn_of _ (by decide +kernel)) ggX6_times_X2_multiply
theorem dX6_times_0 : decode cX6_times 0 = .ok (.iload_n 1, 1) := by decide +kernel
theorem dX6_times_1 : decode cX6_times 1 = .ok (.i2l, 1) := by decide +kernel
theorem dX6_times_2 : decode cX6_times 2 = .ok (.iload_n 2, 1) := by decide +kernel
theorem dX6_times_3 : decode cX6_times 3 = .ok (.i2l, 1) := by decide +kernel
theorem dX6_times_4 : decode cX6_times 4 = .ok (.iload_n 3, 1) := by decide +kernel
theorem dX6_times_5 : decode cX6_times 5 = .ok (.i2l, 1) := by decide +kernel
theorem dX6_times_6 : decode cX6_times 6 = .ok (.iload 4, 2) := by decide +kernel
theorem dX6_times_8 : decode cX6_times 8 = .ok (.i2l, 1) := by decide +kernel
theorem dX6_times_9 : decode cX6_times 9 = .ok (.invokestatic 174, 3) := by decide +kernel
theorem dX6_times_12 : decode cX6_times 12 = .ok (.ifCond .eq 26, 3) := by decide +kernel
theorem dX6_times_15 : decode cX6_times 15 = .ok (.aload_n 0, 1) := by decide +kernel
theorem dX6_times_16 : decode cX6_times 16 = .ok (.getfield 10, 3) := by decide +kernel
theorem dX6_times_19 : decode cX6_times 19 = .ok (.iload_n 1, 1) := by decide +kernel
theorem dX6_times_20 : decode cX6_times 20 = .ok (.i2l, 1) := by decide +kernel
theorem dX6_times_21 : decode cX6_times 21 = .ok (.iload_n 2, 1) := by decide +kernel
theorem dX6_times_22 : decode cX6_times 22 = .ok (.i2l, 1) := by decide +kernel
theorem dX6_times_23 : decode cX6_times 23 = .ok (.iload_n 3, 1) := by decide +kernel
theorem dX6_times_24 : decode cX6_times 24 = .ok (.i2l, 1) := by decide +kernel
theorem dX6_times_25 : decode cX6_times 25 = .ok (.iload 4, 2) := by decide +kernel
theorem dX6_times_27 : decode cX6_times 27 = .ok (.i2l, 1) := by decide +kernel
theorem dX6_times_28 : decode cX6_times 28 = .ok (.invokevirtual 171, 3) := by decide +kernel
theorem dX6_times_31 : decode cX6_times 31 = .ok (.ifCond .eq 7, 3) := by decide +kernel
theorem dX6_times_34 : decode cX6_times 34 = .ok (.iconst 1, 1) := by decide +kernel
theorem dX6_times_35 : decode cX6_times 35 = .ok (.goto 4, 3) := by decide +kernel
theorem dX6_times_38 : decode cX6_times 38 = .ok (.iconst 0, 1) := by decide +kernel
theorem dX6_times_39 : decode cX6_times 39 = .ok (.ireturn, 1) := by decide +kernel
set_option maxRecDepth 20000 in
theorem ggX6_invert_X2_become : GoodIn wsX6_invert wsX2_become := goodIn_r _ [6, 7, 8, 9, 10, 11, 12, 5, 13, 14, 15, 16, 17, 18, 28, 29, 30, 31] (by decide +kernel) (by decide +kernel)
set_option maxRecDepth 20000 in
theorem gX6_invert_X2_become : GoodIn wsX6_invert (wsV RX6 165 RX2 yX2_become wsX2_become) := goodIn_app (goodIn_of _ (by decide +kernel)) ggX6_invert_X2_become
theorem dX6_invert_0 : decode cX6_invert 0 = .ok (.aload_n 0, 1) := by decide +kernel
theorem dX6_invert_1 : decode cX6_invert 1 = .ok (.getfield 10, 3) := by decide +kernel
theorem dX6_invert_4 : decode cX6_invert 4 = .ok (.aload_n 0, 1) := by decide +kernel
theorem dX6_invert_5 : decode cX6_invert 5 = .ok (.getfield 10, 3) := by decide +kernel
theorem dX6_invert_8 : decode cX6_invert 8 = .ok (.getfield 155, 3) := by decide +kernel
theorem dX6_invert_11 : decode cX6_invert 11 = .ok (.i2l, 1) := by decide +kernel
theorem dX6_invert_12 : decode cX6_invert 12 = .ok (.aload_n 0, 1) := by decide +kernel
theorem dX6_invert_13 : decode cX6_invert 13 = .ok (.getfield 10, 3) := by decide +kernel
theorem dX6_invert_16 : decode cX6_invert 16 = .ok (.getfield 149, 3) := by decide +kernel
theorem dX6_invert_19 : decode cX6_invert 19 = .ok (.ineg, 1) := by decide +kernel
theorem dX6_invert_20 : decode cX6_invert 20 = .ok (.i2l, 1) := by decide +kernel
theorem dX6_invert_21 : decode cX6_invert 21 = .ok (.aload_n 0, 1) := by decide +kernel
theorem dX6_invert_22 : decode cX6_invert 22 = .ok (.getfield 10, 3) := by decide +kernel
theorem dX6_invert_25 : decode cX6_invert 25 = .ok (.getfield 152, 3) := by decide +kernel
theorem dX6_invert_28 : decode cX6_invert 28 = .ok (.ineg, 1) := by decide +kernel
theorem dX6_invert_29 : decode cX6_invert 29 = .ok (.i2l, 1) := by decide +kernel
theorem dX6_invert_30 : decode cX6_invert 30 = .ok (.aload_n 0, 1) := by decide +kernel
theorem dX6_invert_31 : decode cX6_invert 31 = .ok (.getfield 10, 3) := by decide +kernel
theorem dX6_invert_34 : decode cX6_invert 34 = .ok (.getfield 146, 3) := by decide +kernel
theorem dX6_invert_37 : decode cX6_invert 37 = .ok (.i2l, 1) := by decide +kernel
theorem dX6_invert_38 : decode cX6_invert 38 = .ok (.invokevirtual 165, 3) := by decide +kernel
theorem dX6_invert_41 : decode cX6_invert 41 = .ok (.ireturn, 1) := by decide +kernel
set_option maxRecDepth 20000 in
theorem ggX6_phi_X2_companion : GoodIn wsX6_phi wsX2_companion := goodIn_r _ [8, 9, 10, 11, 12, 13, 14, 15, 16, 17, 18, 7, 19, 20, 21, 22, 23, 24, 25, 26, 27, 28, 29, 44, 45, 46, 47] (by decide +kernel) (by decide +kernel)
set_option maxRecDepth 20000 in
theorem gX6_phi_X2_companion : GoodIn wsX6_phi (wsV RX6 177 RX2 yX2_companion wsX2_companion) := goodIn_app (goodIn_of _ (by decide +kernel)) ggX6_phi_X2_companion
set_option maxRecDepth 20000 in
theorem ggX6_phi_X2_trace : GoodIn wsX6_phi wsX2_trace := goodIn_r _ [19, 20, 11, 44, 45, 46, 47] (by decide +kernel) (by decide +kernel)
set_option maxRecDepth 20000 in
theorem gX6_phi_X2_trace : GoodIn wsX6_phi (wsV RX6 183 RX2 yX2_trace wsX2_trace) := goodIn_app (goodIn_of _ (by decide +kernel)) ggX6_phi_X2_trace
set_option maxRecDepth 20000 in
theorem ggX6_phi_J13_signum_95d88 : GoodIn wsX6_phi wsJ13_signum_95d88 := goodIn_r _ [34] (by decide +kernel) (by decide +kernel)
set_option maxRecDepth 20000 in
theorem gX6_phi_J13_signum_95d88 : GoodIn wsX6_phi (va_wsS RX6 186 yJ13_signum_95d88 wsJ13_signum_95d88) := goodIn_app (goodIn_of _ (by decide +kernel)) ggX6_phi_J13_signum_95d88
theorem dX6_phi_0 : decode cX6_phi 0 = .ok (.iload_n 1, 1) := by decide +kernel
theorem dX6_phi_1 : decode cX6_phi 1 = .ok (.lookupswitch 68 #[(0, 27), (1, 35)], 27) := by decide +kernel
theorem dX6_phi_28 : decode cX6_phi 28 = .ok (.aload_n 0, 1) := by decide +kernel
theorem dX6_phi_29 : decode cX6_phi 29 = .ok (.getfield 10, 3) := by decide +kernel
theorem dX6_phi_32 : decode cX6_phi 32 = .ok (.invokevirtual 177, 3) := by decide +kernel
theorem dX6_phi_35 : decode cX6_phi 35 = .ok (.lreturn, 1) := by decide +kernel
theorem dX6_phi_36 : decode cX6_phi 36 = .ok (.aload_n 0, 1) := by decide +kernel
theorem dX6_phi_37 : decode cX6_phi 37 = .ok (.getfield 10, 3) := by decide +kernel
theorem dX6_phi_40 : decode cX6_phi 40 = .ok (.invokevirtual 177, 3) := by decide +kernel
theorem dX6_phi_43 : decode cX6_phi 43 = .ok (.ldc2_w 181, 3) := by decide +kernel
theorem dX6_phi_46 : decode cX6_phi 46 = .ok (.aload_n 0, 1) := by decide +kernel
theorem dX6_phi_47 : decode cX6_phi 47 = .ok (.getfield 10, 3) := by decide +kernel
theorem dX6_phi_50 : decode cX6_phi 50 = .ok (.getfield 152, 3) := by decide +kernel
theorem dX6_phi_53 : decode cX6_phi 53 = .ok (.i2l, 1) := by decide +kernel
theorem dX6_phi_54 : decode cX6_phi 54 = .ok (.aload_n 0, 1) := by decide +kernel
theorem dX6_phi_55 : decode cX6_phi 55 = .ok (.getfield 10, 3) := by decide +kernel
theorem dX6_phi_58 : decode cX6_phi 58 = .ok (.invokevirtual 183, 3) := by decide +kernel
theorem dX6_phi_61 : decode cX6_phi 61 = .ok (.lmul, 1) := by decide +kernel
theorem dX6_phi_62 : decode cX6_phi 62 = .ok (.invokestatic 186, 3) := by decide +kernel
theorem dX6_phi_65 : decode cX6_phi 65 = .ok (.i2l, 1) := by decide +kernel
theorem dX6_phi_66 : decode cX6_phi 66 = .ok (.lmul, 1) := by decide +kernel
theorem dX6_phi_67 : decode cX6_phi 67 = .ok (.lsub, 1) := by decide +kernel
theorem dX6_phi_68 : decode cX6_phi 68 = .ok (.lreturn, 1) := by decide +kernel
theorem dX6_phi_69 : decode cX6_phi 69 = .ok (.ldc2_w 67, 3) := by decide +kernel
theorem dX6_phi_72 : decode cX6_phi 72 = .ok (.lreturn, 1) := by decide +kernel
set_option maxRecDepth 20000 in
theorem ggX6_kind_X2_trace : GoodIn wsX6_kind wsX2_trace := goodIn_r _ [11, 12, 13, 23, 24, 25, 26] (by decide +kernel) (by decide +kernel)
set_option maxRecDepth 20000 in
theorem gX6_kind_X2_trace : GoodIn wsX6_kind (wsV RX6 183 RX2 yX2_trace wsX2_trace) := goodIn_app (goodIn_of _ (by decide +kernel)) ggX6_kind_X2_trace
