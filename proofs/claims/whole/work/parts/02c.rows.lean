theorem dX6_kind_0 : decode cX6_kind 0 = .ok (.aload_n 0, 1) := by decide +kernel
theorem dX6_kind_1 : decode cX6_kind 1 = .ok (.getfield 10, 3) := by decide +kernel
theorem dX6_kind_4 : decode cX6_kind 4 = .ok (.invokevirtual 183, 3) := by decide +kernel
theorem dX6_kind_7 : decode cX6_kind 7 = .ok (.invokestatic 192, 3) := by decide +kernel
theorem dX6_kind_10 : decode cX6_kind 10 = .ok (.lstore_n 1, 1) := by decide +kernel
theorem dX6_kind_11 : decode cX6_kind 11 = .ok (.lload_n 1, 1) := by decide +kernel
theorem dX6_kind_12 : decode cX6_kind 12 = .ok (.ldc2_w 195, 3) := by decide +kernel
theorem dX6_kind_15 : decode cX6_kind 15 = .ok (.lcmp, 1) := by decide +kernel
theorem dX6_kind_16 : decode cX6_kind 16 = .ok (.ifCond .ge 5, 3) := by decide +kernel
theorem dX6_kind_19 : decode cX6_kind 19 = .ok (.iconst 0, 1) := by decide +kernel
theorem dX6_kind_20 : decode cX6_kind 20 = .ok (.ireturn, 1) := by decide +kernel
theorem dX6_kind_21 : decode cX6_kind 21 = .ok (.lload_n 1, 1) := by decide +kernel
theorem dX6_kind_22 : decode cX6_kind 22 = .ok (.ldc2_w 195, 3) := by decide +kernel
theorem dX6_kind_25 : decode cX6_kind 25 = .ok (.lcmp, 1) := by decide +kernel
theorem dX6_kind_26 : decode cX6_kind 26 = .ok (.ifCond .ne 7, 3) := by decide +kernel
theorem dX6_kind_29 : decode cX6_kind 29 = .ok (.iconst 1, 1) := by decide +kernel
theorem dX6_kind_30 : decode cX6_kind 30 = .ok (.goto 4, 3) := by decide +kernel
theorem dX6_kind_33 : decode cX6_kind 33 = .ok (.iconst 2, 1) := by decide +kernel
theorem dX6_kind_34 : decode cX6_kind 34 = .ok (.ireturn, 1) := by decide +kernel
set_option maxRecDepth 20000 in
theorem ggX6_order_X2_fewestPowers : GoodIn wsX6_order wsX2_fewestPowers := goodIn_r _ [6, 7, 8, 9, 10, 11, 12, 13, 5, 14, 15, 25, 26, 27, 28] (by decide +kernel) (by decide +kernel)
set_option maxRecDepth 20000 in
theorem gX6_order_X2_fewestPowers : GoodIn wsX6_order (wsV RX6 197 RX2 yX2_fewestPowers wsX2_fewestPowers) := goodIn_app (goodIn_of _ (by decide +kernel)) ggX6_order_X2_fewestPowers
theorem dX6_order_0 : decode cX6_order 0 = .ok (.aload_n 0, 1) := by decide +kernel
theorem dX6_order_1 : decode cX6_order 1 = .ok (.getfield 10, 3) := by decide +kernel
theorem dX6_order_4 : decode cX6_order 4 = .ok (.invokevirtual 197, 3) := by decide +kernel
theorem dX6_order_7 : decode cX6_order 7 = .ok (.ireturn, 1) := by decide +kernel
set_option maxRecDepth 20000 in
theorem ggX6_word_X2_partOfWord : GoodIn wsX6_word wsX2_partOfWord := goodIn_r _ [6, 7, 8, 9, 10, 11, 12, 13, 14, 15, 16, 26, 27, 28, 29] (by decide +kernel) (by decide +kernel)
set_option maxRecDepth 20000 in
theorem gX6_word_X2_partOfWord : GoodIn wsX6_word (wsV RX6 201 RX2 yX2_partOfWord wsX2_partOfWord) := goodIn_app (goodIn_of _ (by decide +kernel)) ggX6_word_X2_partOfWord
theorem dX6_word_0 : decode cX6_word 0 = .ok (.aload_n 0, 1) := by decide +kernel
theorem dX6_word_1 : decode cX6_word 1 = .ok (.getfield 10, 3) := by decide +kernel
theorem dX6_word_4 : decode cX6_word 4 = .ok (.iload_n 1, 1) := by decide +kernel
theorem dX6_word_5 : decode cX6_word 5 = .ok (.invokevirtual 201, 3) := by decide +kernel
theorem dX6_word_8 : decode cX6_word 8 = .ok (.lreturn, 1) := by decide +kernel
set_option maxRecDepth 20000 in
theorem ggX6_same_X0_isRing : GoodIn wsX6_same wsX0_isRing := goodIn_r _ [4, 5, 6, 7, 8, 9, 10, 11, 12, 13, 14, 15, 16, 17, 18, 19, 20] (by decide +kernel) (by decide +kernel)
set_option maxRecDepth 20000 in
theorem gX6_same_X0_isRing : GoodIn wsX6_same (va_wsS RX6 205 yX0_isRing wsX0_isRing) := goodIn_app (goodIn_of _ (by decide +kernel)) ggX6_same_X0_isRing
set_option maxRecDepth 20000 in
theorem ggX6_same_J9_floorMod_7cf53 : GoodIn wsX6_same wsJ9_floorMod_7cf53 := goodIn_r _ [24] (by decide +kernel) (by decide +kernel)
set_option maxRecDepth 20000 in
theorem gX6_same_J9_floorMod_7cf53 : GoodIn wsX6_same (va_wsS RX6 109 yJ9_floorMod_7cf53 wsJ9_floorMod_7cf53) := goodIn_app (goodIn_of _ (by decide +kernel)) ggX6_same_J9_floorMod_7cf53
set_option maxRecDepth 20000 in
theorem ggX6_same_X0_match : GoodIn wsX6_same wsX0_match := goodIn_r _ [27] (by decide +kernel) (by decide +kernel)
set_option maxRecDepth 20000 in
theorem gX6_same_X0_match : GoodIn wsX6_same (va_wsS RX6 209 yX0_match wsX0_match) := goodIn_app (goodIn_of _ (by decide +kernel)) ggX6_same_X0_match
theorem dX6_same_0 : decode cX6_same 0 = .ok (.iload_n 1, 1) := by decide +kernel
theorem dX6_same_1 : decode cX6_same 1 = .ok (.iload_n 2, 1) := by decide +kernel
theorem dX6_same_2 : decode cX6_same 2 = .ok (.invokestatic 205, 3) := by decide +kernel
theorem dX6_same_5 : decode cX6_same 5 = .ok (.ifCond .eq 11, 3) := by decide +kernel
theorem dX6_same_8 : decode cX6_same 8 = .ok (.iload_n 1, 1) := by decide +kernel
theorem dX6_same_9 : decode cX6_same 9 = .ok (.iload_n 3, 1) := by decide +kernel
theorem dX6_same_10 : decode cX6_same 10 = .ok (.invokestatic 205, 3) := by decide +kernel
theorem dX6_same_13 : decode cX6_same 13 = .ok (.ifCond .ne 5, 3) := by decide +kernel
theorem dX6_same_16 : decode cX6_same 16 = .ok (.iconst (-1), 1) := by decide +kernel
theorem dX6_same_17 : decode cX6_same 17 = .ok (.ireturn, 1) := by decide +kernel
theorem dX6_same_18 : decode cX6_same 18 = .ok (.iload_n 2, 1) := by decide +kernel
theorem dX6_same_19 : decode cX6_same 19 = .ok (.iload_n 1, 1) := by decide +kernel
theorem dX6_same_20 : decode cX6_same 20 = .ok (.invokestatic 109, 3) := by decide +kernel
theorem dX6_same_23 : decode cX6_same 23 = .ok (.istore 4, 2) := by decide +kernel
theorem dX6_same_25 : decode cX6_same 25 = .ok (.iload_n 3, 1) := by decide +kernel
theorem dX6_same_26 : decode cX6_same 26 = .ok (.iload_n 1, 1) := by decide +kernel
theorem dX6_same_27 : decode cX6_same 27 = .ok (.invokestatic 109, 3) := by decide +kernel
theorem dX6_same_30 : decode cX6_same 30 = .ok (.istore 5, 2) := by decide +kernel
theorem dX6_same_32 : decode cX6_same 32 = .ok (.iload_n 1, 1) := by decide +kernel
theorem dX6_same_33 : decode cX6_same 33 = .ok (.iload 4, 2) := by decide +kernel
theorem dX6_same_35 : decode cX6_same 35 = .ok (.iload 5, 2) := by decide +kernel
theorem dX6_same_37 : decode cX6_same 37 = .ok (.invokestatic 209, 3) := by decide +kernel
theorem dX6_same_40 : decode cX6_same 40 = .ok (.ifCond .eq 5, 3) := by decide +kernel
theorem dX6_same_43 : decode cX6_same 43 = .ok (.iconst 2, 1) := by decide +kernel
theorem dX6_same_44 : decode cX6_same 44 = .ok (.ireturn, 1) := by decide +kernel
theorem dX6_same_45 : decode cX6_same 45 = .ok (.iload_n 1, 1) := by decide +kernel
theorem dX6_same_46 : decode cX6_same 46 = .ok (.iload_n 1, 1) := by decide +kernel
theorem dX6_same_47 : decode cX6_same 47 = .ok (.iload 4, 2) := by decide +kernel
theorem dX6_same_49 : decode cX6_same 49 = .ok (.isub, 1) := by decide +kernel
theorem dX6_same_50 : decode cX6_same 50 = .ok (.iload 5, 2) := by decide +kernel
theorem dX6_same_52 : decode cX6_same 52 = .ok (.invokestatic 209, 3) := by decide +kernel
theorem dX6_same_55 : decode cX6_same 55 = .ok (.ifCond .eq 7, 3) := by decide +kernel
theorem dX6_same_58 : decode cX6_same 58 = .ok (.iconst 1, 1) := by decide +kernel
theorem dX6_same_59 : decode cX6_same 59 = .ok (.goto 4, 3) := by decide +kernel
theorem dX6_same_62 : decode cX6_same 62 = .ok (.iconst 0, 1) := by decide +kernel
theorem dX6_same_63 : decode cX6_same 63 = .ok (.ireturn, 1) := by decide +kernel
set_option maxRecDepth 20000 in
theorem ggX6_ring_X0_isRing : GoodIn wsX6_ring wsX0_isRing := goodIn_r _ [4, 5, 6, 7, 8, 9, 10, 11, 12, 13, 14, 15, 16, 17, 18, 19, 20] (by decide +kernel) (by decide +kernel)
set_option maxRecDepth 20000 in
theorem gX6_ring_X0_isRing : GoodIn wsX6_ring (va_wsS RX6 205 yX0_isRing wsX0_isRing) := goodIn_app (goodIn_of _ (by decide +kernel)) ggX6_ring_X0_isRing
set_option maxRecDepth 20000 in
theorem ggX6_ring_X0_leastOf : GoodIn wsX6_ring wsX0_leastOf := goodIn_r _ [23, 24, 25, 16, 26, 27, 28, 29, 30, 31, 32, 12, 33, 34, 35, 36] (by decide +kernel) (by decide +kernel)
set_option maxRecDepth 20000 in
theorem gX6_ring_X0_leastOf : GoodIn wsX6_ring (va_wsS RX6 212 yX0_leastOf wsX0_leastOf) := goodIn_app (goodIn_of _ (by decide +kernel)) ggX6_ring_X0_leastOf
theorem dX6_ring_0 : decode cX6_ring 0 = .ok (.iload_n 1, 1) := by decide +kernel
theorem dX6_ring_1 : decode cX6_ring 1 = .ok (.iload_n 2, 1) := by decide +kernel
theorem dX6_ring_2 : decode cX6_ring 2 = .ok (.invokestatic 205, 3) := by decide +kernel
theorem dX6_ring_5 : decode cX6_ring 5 = .ok (.ifCond .eq 11, 3) := by decide +kernel
theorem dX6_ring_8 : decode cX6_ring 8 = .ok (.iload_n 1, 1) := by decide +kernel
theorem dX6_ring_9 : decode cX6_ring 9 = .ok (.iload_n 2, 1) := by decide +kernel
theorem dX6_ring_10 : decode cX6_ring 10 = .ok (.invokestatic 212, 3) := by decide +kernel
theorem dX6_ring_13 : decode cX6_ring 13 = .ok (.goto 4, 3) := by decide +kernel
theorem dX6_ring_16 : decode cX6_ring 16 = .ok (.iconst (-1), 1) := by decide +kernel
theorem dX6_ring_17 : decode cX6_ring 17 = .ok (.ireturn, 1) := by decide +kernel
set_option maxRecDepth 20000 in
theorem ggX6_rings_X6_lies : GoodIn wsX6_rings wsX6_lies := goodIn_r _ [7] (by decide +kernel) (by decide +kernel)
set_option maxRecDepth 20000 in
theorem gX6_rings_X6_lies : GoodIn wsX6_rings (va_wsS RX6 63 yX6_lies wsX6_lies) := goodIn_app (goodIn_of _ (by decide +kernel)) ggX6_rings_X6_lies
set_option maxRecDepth 20000 in
theorem ggX6_rings_X0_gather : GoodIn wsX6_rings wsX0_gather := goodIn_r _ [12, 13, 14, 15, 16, 17, 18, 19, 20, 21, 11, 22, 23, 24, 5, 6, 7, 25, 26, 27, 28, 29, 30, 31, 32, 33, 34, 35, 36, 37, 38, 39, 40, 41, 42, 43, 44, 45, 46, 47, 48, 49, 50, 51, 52, 66, 67, 68] (by decide +kernel) (by decide +kernel)
set_option maxRecDepth 20000 in
theorem gX6_rings_X0_gather : GoodIn wsX6_rings (wsV RX6 215 RX0 yX0_gather wsX0_gather) := goodIn_app (goodIn_of _ (by decide +kernel)) ggX6_rings_X0_gather
set_option maxRecDepth 20000 in
theorem ggX6_rings_X0_numberAt : GoodIn wsX6_rings wsX0_numberAt := goodIn_r _ [56, 13, 14, 66, 67, 68] (by decide +kernel) (by decide +kernel)
set_option maxRecDepth 20000 in
theorem gX6_rings_X0_numberAt : GoodIn wsX6_rings (wsV RX6 219 RX0 yX0_numberAt wsX0_numberAt) := goodIn_app (goodIn_of _ (by decide +kernel)) ggX6_rings_X0_numberAt
theorem dX6_rings_0 : decode cX6_rings 0 = .ok (.iload_n 1, 1) := by decide +kernel
theorem dX6_rings_1 : decode cX6_rings 1 = .ok (.i2l, 1) := by decide +kernel
theorem dX6_rings_2 : decode cX6_rings 2 = .ok (.ldc2_w 195, 3) := by decide +kernel
theorem dX6_rings_5 : decode cX6_rings 5 = .ok (.ldc2_w 104, 3) := by decide +kernel
theorem dX6_rings_8 : decode cX6_rings 8 = .ok (.invokestatic 63, 3) := by decide +kernel
theorem dX6_rings_11 : decode cX6_rings 11 = .ok (.ifCond .ne 5, 3) := by decide +kernel
theorem dX6_rings_14 : decode cX6_rings 14 = .ok (.iconst (-1), 1) := by decide +kernel
theorem dX6_rings_15 : decode cX6_rings 15 = .ok (.ireturn, 1) := by decide +kernel
theorem dX6_rings_16 : decode cX6_rings 16 = .ok (.aload_n 0, 1) := by decide +kernel
theorem dX6_rings_17 : decode cX6_rings 17 = .ok (.getfield 19, 3) := by decide +kernel
theorem dX6_rings_20 : decode cX6_rings 20 = .ok (.iload_n 1, 1) := by decide +kernel
theorem dX6_rings_21 : decode cX6_rings 21 = .ok (.invokevirtual 215, 3) := by decide +kernel
theorem dX6_rings_24 : decode cX6_rings 24 = .ok (.aload_n 0, 1) := by decide +kernel
theorem dX6_rings_25 : decode cX6_rings 25 = .ok (.getfield 19, 3) := by decide +kernel
theorem dX6_rings_28 : decode cX6_rings 28 = .ok (.iload_n 2, 1) := by decide +kernel
theorem dX6_rings_29 : decode cX6_rings 29 = .ok (.invokevirtual 219, 3) := by decide +kernel
theorem dX6_rings_32 : decode cX6_rings 32 = .ok (.ireturn, 1) := by decide +kernel
set_option maxRecDepth 20000 in
theorem ggX6_twins_X6_lies : GoodIn wsX6_twins wsX6_lies := goodIn_r _ [7] (by decide +kernel) (by decide +kernel)
set_option maxRecDepth 20000 in
theorem gX6_twins_X6_lies : GoodIn wsX6_twins (va_wsS RX6 63 yX6_lies wsX6_lies) := goodIn_app (goodIn_of _ (by decide +kernel)) ggX6_twins_X6_lies
set_option maxRecDepth 20000 in
theorem ggX6_twins_X0_gather : GoodIn wsX6_twins wsX0_gather := goodIn_r _ [12, 13, 14, 15, 16, 17, 18, 19, 20, 21, 11, 22, 23, 24, 5, 6, 7, 25, 26, 27, 28, 29, 30, 31, 32, 33, 34, 35, 36, 37, 38, 39, 40, 41, 42, 43, 44, 45, 46, 47, 48, 49, 50, 51, 52, 66, 67, 68] (by decide +kernel) (by decide +kernel)
set_option maxRecDepth 20000 in
theorem gX6_twins_X0_gather : GoodIn wsX6_twins (wsV RX6 215 RX0 yX0_gather wsX0_gather) := goodIn_app (goodIn_of _ (by decide +kernel)) ggX6_twins_X0_gather
set_option maxRecDepth 20000 in
theorem ggX6_twins_X0_twinsAt : GoodIn wsX6_twins wsX0_twinsAt := goodIn_r _ [56, 13, 14, 15, 36, 37, 18, 38, 66, 67, 68] (by decide +kernel) (by decide +kernel)
set_option maxRecDepth 20000 in
theorem gX6_twins_X0_twinsAt : GoodIn wsX6_twins (wsV RX6 222 RX0 yX0_twinsAt wsX0_twinsAt) := goodIn_app (goodIn_of _ (by decide +kernel)) ggX6_twins_X0_twinsAt
theorem dX6_twins_0 : decode cX6_twins 0 = .ok (.iload_n 1, 1) := by decide +kernel
theorem dX6_twins_1 : decode cX6_twins 1 = .ok (.i2l, 1) := by decide +kernel
theorem dX6_twins_2 : decode cX6_twins 2 = .ok (.ldc2_w 195, 3) := by decide +kernel
theorem dX6_twins_5 : decode cX6_twins 5 = .ok (.ldc2_w 104, 3) := by decide +kernel
theorem dX6_twins_8 : decode cX6_twins 8 = .ok (.invokestatic 63, 3) := by decide +kernel
theorem dX6_twins_11 : decode cX6_twins 11 = .ok (.ifCond .ne 5, 3) := by decide +kernel
theorem dX6_twins_14 : decode cX6_twins 14 = .ok (.iconst (-1), 1) := by decide +kernel
theorem dX6_twins_15 : decode cX6_twins 15 = .ok (.ireturn, 1) := by decide +kernel
theorem dX6_twins_16 : decode cX6_twins 16 = .ok (.aload_n 0, 1) := by decide +kernel
theorem dX6_twins_17 : decode cX6_twins 17 = .ok (.getfield 19, 3) := by decide +kernel
theorem dX6_twins_20 : decode cX6_twins 20 = .ok (.iload_n 1, 1) := by decide +kernel
theorem dX6_twins_21 : decode cX6_twins 21 = .ok (.invokevirtual 215, 3) := by decide +kernel
theorem dX6_twins_24 : decode cX6_twins 24 = .ok (.aload_n 0, 1) := by decide +kernel
theorem dX6_twins_25 : decode cX6_twins 25 = .ok (.getfield 19, 3) := by decide +kernel
theorem dX6_twins_28 : decode cX6_twins 28 = .ok (.iload_n 2, 1) := by decide +kernel
theorem dX6_twins_29 : decode cX6_twins 29 = .ok (.invokevirtual 222, 3) := by decide +kernel
theorem dX6_twins_32 : decode cX6_twins 32 = .ok (.ireturn, 1) := by decide +kernel
set_option maxRecDepth 20000 in
theorem ggX6_feed_X6_feedOne : GoodIn wsX6_feed wsX6_feedOne := goodIn_r _ [6, 1, 7, 8, 9, 10, 11, 12, 13, 14, 15, 16] (by decide +kernel) (by decide +kernel)
set_option maxRecDepth 20000 in
theorem gX6_feed_X6_feedOne : GoodIn wsX6_feed (wsV RX6 225 RX6 yX6_feedOne wsX6_feedOne) := goodIn_app (goodIn_of _ (by decide +kernel)) ggX6_feed_X6_feedOne
theorem dX6_feed_0 : decode cX6_feed 0 = .ok (.aload_n 0, 1) := by decide +kernel
theorem dX6_feed_1 : decode cX6_feed 1 = .ok (.getfield 40, 3) := by decide +kernel
theorem dX6_feed_4 : decode cX6_feed 4 = .ok (.bipush 20, 2) := by decide +kernel
theorem dX6_feed_6 : decode cX6_feed 6 = .ok (.iadd, 1) := by decide +kernel
theorem dX6_feed_7 : decode cX6_feed 7 = .ok (.sipush 300, 3) := by decide +kernel
theorem dX6_feed_10 : decode cX6_feed 10 = .ok (.if_icmp .le 5, 3) := by decide +kernel
theorem dX6_feed_13 : decode cX6_feed 13 = .ok (.iconst (-1), 1) := by decide +kernel
theorem dX6_feed_14 : decode cX6_feed 14 = .ok (.ireturn, 1) := by decide +kernel
theorem dX6_feed_15 : decode cX6_feed 15 = .ok (.aload_n 0, 1) := by decide +kernel
theorem dX6_feed_16 : decode cX6_feed 16 = .ok (.iload_n 1, 1) := by decide +kernel
theorem dX6_feed_17 : decode cX6_feed 17 = .ok (.invokevirtual 225, 3) := by decide +kernel
theorem dX6_feed_20 : decode cX6_feed 20 = .ok (.aload_n 0, 1) := by decide +kernel
theorem dX6_feed_21 : decode cX6_feed 21 = .ok (.iload_n 2, 1) := by decide +kernel
theorem dX6_feed_22 : decode cX6_feed 22 = .ok (.invokevirtual 225, 3) := by decide +kernel
theorem dX6_feed_25 : decode cX6_feed 25 = .ok (.aload_n 0, 1) := by decide +kernel
theorem dX6_feed_26 : decode cX6_feed 26 = .ok (.iload_n 3, 1) := by decide +kernel
theorem dX6_feed_27 : decode cX6_feed 27 = .ok (.invokevirtual 225, 3) := by decide +kernel
theorem dX6_feed_30 : decode cX6_feed 30 = .ok (.aload_n 0, 1) := by decide +kernel
theorem dX6_feed_31 : decode cX6_feed 31 = .ok (.iload 4, 2) := by decide +kernel
theorem dX6_feed_33 : decode cX6_feed 33 = .ok (.invokevirtual 225, 3) := by decide +kernel
theorem dX6_feed_36 : decode cX6_feed 36 = .ok (.aload_n 0, 1) := by decide +kernel
theorem dX6_feed_37 : decode cX6_feed 37 = .ok (.iload 5, 2) := by decide +kernel
theorem dX6_feed_39 : decode cX6_feed 39 = .ok (.invokevirtual 225, 3) := by decide +kernel
theorem dX6_feed_42 : decode cX6_feed 42 = .ok (.aload_n 0, 1) := by decide +kernel
theorem dX6_feed_43 : decode cX6_feed 43 = .ok (.getfield 40, 3) := by decide +kernel
theorem dX6_feed_46 : decode cX6_feed 46 = .ok (.ireturn, 1) := by decide +kernel
theorem dX6_feedOne_0 : decode cX6_feedOne 0 = .ok (.bipush 24, 2) := by decide +kernel
theorem dX6_feedOne_2 : decode cX6_feedOne 2 = .ok (.istore_n 2, 1) := by decide +kernel
theorem dX6_feedOne_3 : decode cX6_feedOne 3 = .ok (.iload_n 2, 1) := by decide +kernel
theorem dX6_feedOne_4 : decode cX6_feedOne 4 = .ok (.ifCond .lt 51, 3) := by decide +kernel
theorem dX6_feedOne_7 : decode cX6_feedOne 7 = .ok (.aload_n 0, 1) := by decide +kernel
theorem dX6_feedOne_8 : decode cX6_feedOne 8 = .ok (.getfield 40, 3) := by decide +kernel
theorem dX6_feedOne_11 : decode cX6_feedOne 11 = .ok (.ifCond .lt 38, 3) := by decide +kernel
theorem dX6_feedOne_14 : decode cX6_feedOne 14 = .ok (.aload_n 0, 1) := by decide +kernel
theorem dX6_feedOne_15 : decode cX6_feedOne 15 = .ok (.getfield 40, 3) := by decide +kernel
theorem dX6_feedOne_18 : decode cX6_feedOne 18 = .ok (.aload_n 0, 1) := by decide +kernel
theorem dX6_feedOne_19 : decode cX6_feedOne 19 = .ok (.getfield 27, 3) := by decide +kernel
theorem dX6_feedOne_22 : decode cX6_feedOne 22 = .ok (.arraylength, 1) := by decide +kernel
theorem dX6_feedOne_23 : decode cX6_feedOne 23 = .ok (.if_icmp .ge 26, 3) := by decide +kernel
theorem dX6_feedOne_26 : decode cX6_feedOne 26 = .ok (.aload_n 0, 1) := by decide +kernel
theorem dX6_feedOne_27 : decode cX6_feedOne 27 = .ok (.getfield 27, 3) := by decide +kernel
theorem dX6_feedOne_30 : decode cX6_feedOne 30 = .ok (.aload_n 0, 1) := by decide +kernel
theorem dX6_feedOne_31 : decode cX6_feedOne 31 = .ok (.getfield 40, 3) := by decide +kernel
theorem dX6_feedOne_34 : decode cX6_feedOne 34 = .ok (.iload_n 1, 1) := by decide +kernel
theorem dX6_feedOne_35 : decode cX6_feedOne 35 = .ok (.iload_n 2, 1) := by decide +kernel
theorem dX6_feedOne_36 : decode cX6_feedOne 36 = .ok (.iushr, 1) := by decide +kernel
theorem dX6_feedOne_37 : decode cX6_feedOne 37 = .ok (.i2b, 1) := by decide +kernel
theorem dX6_feedOne_38 : decode cX6_feedOne 38 = .ok (.bastore, 1) := by decide +kernel
theorem dX6_feedOne_39 : decode cX6_feedOne 39 = .ok (.aload_n 0, 1) := by decide +kernel
theorem dX6_feedOne_40 : decode cX6_feedOne 40 = .ok (.dup, 1) := by decide +kernel
theorem dX6_feedOne_41 : decode cX6_feedOne 41 = .ok (.getfield 40, 3) := by decide +kernel
theorem dX6_feedOne_44 : decode cX6_feedOne 44 = .ok (.iconst 1, 1) := by decide +kernel
theorem dX6_feedOne_45 : decode cX6_feedOne 45 = .ok (.iadd, 1) := by decide +kernel
theorem dX6_feedOne_46 : decode cX6_feedOne 46 = .ok (.putfield 40, 3) := by decide +kernel
theorem dX6_feedOne_49 : decode cX6_feedOne 49 = .ok (.iinc 2 (-8), 3) := by decide +kernel
theorem dX6_feedOne_52 : decode cX6_feedOne 52 = .ok (.goto (-49), 3) := by decide +kernel
theorem dX6_feedOne_55 : decode cX6_feedOne 55 = .ok (.return_, 1) := by decide +kernel
set_option maxRecDepth 20000 in
theorem ggX6_end_X6_lies : GoodIn wsX6_end wsX6_lies := goodIn_r _ [5] (by decide +kernel) (by decide +kernel)
set_option maxRecDepth 20000 in
theorem gX6_end_X6_lies : GoodIn wsX6_end (va_wsS RX6 63 yX6_lies wsX6_lies) := goodIn_app (goodIn_of _ (by decide +kernel)) ggX6_end_X6_lies
theorem dX6_end_0 : decode cX6_end 0 = .ok (.iload_n 1, 1) := by decide +kernel
theorem dX6_end_1 : decode cX6_end 1 = .ok (.i2l, 1) := by decide +kernel
theorem dX6_end_2 : decode cX6_end 2 = .ok (.lconst 0, 1) := by decide +kernel
theorem dX6_end_3 : decode cX6_end 3 = .ok (.aload_n 0, 1) := by decide +kernel
theorem dX6_end_4 : decode cX6_end 4 = .ok (.getfield 40, 3) := by decide +kernel
theorem dX6_end_7 : decode cX6_end 7 = .ok (.i2l, 1) := by decide +kernel
theorem dX6_end_8 : decode cX6_end 8 = .ok (.invokestatic 63, 3) := by decide +kernel
theorem dX6_end_11 : decode cX6_end 11 = .ok (.ifCond .ne 5, 3) := by decide +kernel
theorem dX6_end_14 : decode cX6_end 14 = .ok (.iconst 0, 1) := by decide +kernel
theorem dX6_end_15 : decode cX6_end 15 = .ok (.ireturn, 1) := by decide +kernel
theorem dX6_end_16 : decode cX6_end 16 = .ok (.aload_n 0, 1) := by decide +kernel
theorem dX6_end_17 : decode cX6_end 17 = .ok (.iload_n 1, 1) := by decide +kernel
theorem dX6_end_18 : decode cX6_end 18 = .ok (.putfield 40, 3) := by decide +kernel
theorem dX6_end_21 : decode cX6_end 21 = .ok (.iconst 1, 1) := by decide +kernel
theorem dX6_end_22 : decode cX6_end 22 = .ok (.ireturn, 1) := by decide +kernel
set_option maxRecDepth 20000 in
theorem ggX6_tell_X3_workOut : GoodIn wsX6_tell wsX3_workOut := goodIn_r _ [10, 11, 12, 13, 14, 15, 16, 17, 18, 19, 20, 21, 22, 23, 24, 25, 26, 27, 28, 29, 30, 31, 32, 33, 34, 35, 36, 37, 38, 39, 40, 41, 42, 43, 44, 45, 46, 47, 48, 49, 50, 51, 52, 53, 54, 55, 56, 57, 58, 59, 60, 61, 62, 63, 64, 65, 66, 67, 68, 69, 70, 71, 72, 73, 74, 75, 76, 77, 78, 79, 80, 81, 82, 83, 84, 85, 86, 87, 88, 89, 90, 91, 92, 93, 94, 95, 96, 97, 98, 99, 100, 101, 102, 103, 104, 105, 106, 107, 108, 109, 110, 111, 112, 113, 114, 115, 116, 117, 118, 119, 9, 120, 121, 122, 123, 124, 125, 126, 127, 128, 129, 130, 131, 132, 133, 134, 135, 136, 137, 138, 139, 140, 141, 142, 143, 144, 145, 146, 147, 148, 149, 150, 151, 152, 153, 154, 155, 156, 157, 158, 159, 160, 161, 162, 163, 164, 165, 166, 167, 168, 169, 170, 171, 172, 173, 174, 175, 176, 177, 178, 179, 180, 181, 182, 183, 184, 185, 186, 187, 188, 189, 190, 191, 192, 193, 194, 195, 196, 197, 198, 199, 200, 201, 202, 203, 204, 205, 206, 207, 208, 209, 210, 211, 212, 213, 214, 215, 216, 217, 218, 219, 220, 221, 222, 223, 224, 225, 226, 227, 228, 229, 230, 231, 232, 233, 234, 235, 236, 237, 238, 239, 240, 241, 242, 243, 244, 245, 246, 247, 248, 249, 250, 251, 252, 253, 254, 255, 256, 270, 271, 272, 273, 274, 275, 276, 277, 278, 279, 280, 281, 282, 283, 284, 285, 286, 287, 288, 289] (by decide +kernel) (by decide +kernel)
set_option maxRecDepth 20000 in
theorem gX6_tell_X3_workOut : GoodIn wsX6_tell (wsV RX6 228 RX3 yX3_workOut wsX3_workOut) := goodIn_app (goodIn_of _ (by decide +kernel)) ggX6_tell_X3_workOut
set_option maxRecDepth 20000 in
theorem ggX6_tell_X3_fault : GoodIn wsX6_tell wsX3_fault := goodIn_r _ [260, 14, 15, 270, 271, 272, 273, 274, 275, 276, 277] (by decide +kernel) (by decide +kernel)
set_option maxRecDepth 20000 in
theorem gX6_tell_X3_fault : GoodIn wsX6_tell (wsV RX6 232 RX3 yX3_fault wsX3_fault) := goodIn_app (goodIn_of _ (by decide +kernel)) ggX6_tell_X3_fault
theorem dX6_tell_0 : decode cX6_tell 0 = .ok (.aload_n 0, 1) := by decide +kernel
theorem dX6_tell_1 : decode cX6_tell 1 = .ok (.getfield 36, 3) := by decide +kernel
theorem dX6_tell_4 : decode cX6_tell 4 = .ok (.aload_n 0, 1) := by decide +kernel
theorem dX6_tell_5 : decode cX6_tell 5 = .ok (.getfield 40, 3) := by decide +kernel
theorem dX6_tell_8 : decode cX6_tell 8 = .ok (.invokevirtual 228, 3) := by decide +kernel
theorem dX6_tell_11 : decode cX6_tell 11 = .ok (.astore_n 1, 1) := by decide +kernel
theorem dX6_tell_12 : decode cX6_tell 12 = .ok (.aload_n 0, 1) := by decide +kernel
theorem dX6_tell_13 : decode cX6_tell 13 = .ok (.iconst 0, 1) := by decide +kernel
theorem dX6_tell_14 : decode cX6_tell 14 = .ok (.putfield 40, 3) := by decide +kernel
theorem dX6_tell_17 : decode cX6_tell 17 = .ok (.aload_n 0, 1) := by decide +kernel
theorem dX6_tell_18 : decode cX6_tell 18 = .ok (.getfield 36, 3) := by decide +kernel
theorem dX6_tell_21 : decode cX6_tell 21 = .ok (.invokevirtual 232, 3) := by decide +kernel
theorem dX6_tell_24 : decode cX6_tell 24 = .ok (.istore_n 2, 1) := by decide +kernel
theorem dX6_tell_25 : decode cX6_tell 25 = .ok (.iload_n 2, 1) := by decide +kernel
theorem dX6_tell_26 : decode cX6_tell 26 = .ok (.ifCond .ne 29, 3) := by decide +kernel
theorem dX6_tell_29 : decode cX6_tell 29 = .ok (.aload_n 0, 1) := by decide +kernel
theorem dX6_tell_30 : decode cX6_tell 30 = .ok (.aload_n 1, 1) := by decide +kernel
theorem dX6_tell_31 : decode cX6_tell 31 = .ok (.putfield 49, 3) := by decide +kernel
theorem dX6_tell_34 : decode cX6_tell 34 = .ok (.aload_n 0, 1) := by decide +kernel
theorem dX6_tell_35 : decode cX6_tell 35 = .ok (.dup, 1) := by decide +kernel
theorem dX6_tell_36 : decode cX6_tell 36 = .ok (.getfield 53, 3) := by decide +kernel
theorem dX6_tell_39 : decode cX6_tell 39 = .ok (.iconst 1, 1) := by decide +kernel
theorem dX6_tell_40 : decode cX6_tell 40 = .ok (.iadd, 1) := by decide +kernel
theorem dX6_tell_41 : decode cX6_tell 41 = .ok (.putfield 53, 3) := by decide +kernel
theorem dX6_tell_44 : decode cX6_tell 44 = .ok (.aload_n 0, 1) := by decide +kernel
theorem dX6_tell_45 : decode cX6_tell 45 = .ok (.aload_n 0, 1) := by decide +kernel
theorem dX6_tell_46 : decode cX6_tell 46 = .ok (.getfield 36, 3) := by decide +kernel
theorem dX6_tell_49 : decode cX6_tell 49 = .ok (.getfield 235, 3) := by decide +kernel
theorem dX6_tell_52 : decode cX6_tell 52 = .ok (.putfield 56, 3) := by decide +kernel
theorem dX6_tell_55 : decode cX6_tell 55 = .ok (.iload_n 2, 1) := by decide +kernel
theorem dX6_tell_56 : decode cX6_tell 56 = .ok (.ireturn, 1) := by decide +kernel
set_option maxRecDepth 20000 in
theorem ggX6_told_X1_part : GoodIn wsX6_told wsX1_part := goodIn_r _ [6, 7, 8, 18, 19] (by decide +kernel) (by decide +kernel)
set_option maxRecDepth 20000 in
theorem gX6_told_X1_part : GoodIn wsX6_told (wsV RX6 79 RX1 yX1_part wsX1_part) := goodIn_app (goodIn_of _ (by decide +kernel)) ggX6_told_X1_part
theorem dX6_told_0 : decode cX6_told 0 = .ok (.aload_n 0, 1) := by decide +kernel
theorem dX6_told_1 : decode cX6_told 1 = .ok (.getfield 49, 3) := by decide +kernel
theorem dX6_told_4 : decode cX6_told 4 = .ok (.iload_n 1, 1) := by decide +kernel
theorem dX6_told_5 : decode cX6_told 5 = .ok (.invokevirtual 79, 3) := by decide +kernel
theorem dX6_told_8 : decode cX6_told 8 = .ok (.lreturn, 1) := by decide +kernel
theorem dX6_count_0 : decode cX6_count 0 = .ok (.iload_n 1, 1) := by decide +kernel
theorem dX6_count_1 : decode cX6_count 1 = .ok (.tableswitch 42 0 2 #[27, 32, 37], 27) := by decide +kernel
theorem dX6_count_28 : decode cX6_count 28 = .ok (.aload_n 0, 1) := by decide +kernel
theorem dX6_count_29 : decode cX6_count 29 = .ok (.getfield 40, 3) := by decide +kernel
theorem dX6_count_32 : decode cX6_count 32 = .ok (.ireturn, 1) := by decide +kernel
theorem dX6_count_33 : decode cX6_count 33 = .ok (.aload_n 0, 1) := by decide +kernel
theorem dX6_count_34 : decode cX6_count 34 = .ok (.getfield 53, 3) := by decide +kernel
theorem dX6_count_37 : decode cX6_count 37 = .ok (.ireturn, 1) := by decide +kernel
theorem dX6_count_38 : decode cX6_count 38 = .ok (.aload_n 0, 1) := by decide +kernel
theorem dX6_count_39 : decode cX6_count 39 = .ok (.getfield 56, 3) := by decide +kernel
theorem dX6_count_42 : decode cX6_count 42 = .ok (.ireturn, 1) := by decide +kernel
theorem dX6_count_43 : decode cX6_count 43 = .ok (.iconst (-1), 1) := by decide +kernel
theorem dX6_count_44 : decode cX6_count 44 = .ok (.ireturn, 1) := by decide +kernel
theorem dX6_lies_0 : decode cX6_lies 0 = .ok (.lload_n 0, 1) := by decide +kernel
theorem dX6_lies_1 : decode cX6_lies 1 = .ok (.lload_n 2, 1) := by decide +kernel
theorem dX6_lies_2 : decode cX6_lies 2 = .ok (.lcmp, 1) := by decide +kernel
theorem dX6_lies_3 : decode cX6_lies 3 = .ok (.ifCond .lt 14, 3) := by decide +kernel
theorem dX6_lies_6 : decode cX6_lies 6 = .ok (.lload_n 0, 1) := by decide +kernel
theorem dX6_lies_7 : decode cX6_lies 7 = .ok (.lload 4, 2) := by decide +kernel
theorem dX6_lies_9 : decode cX6_lies 9 = .ok (.lcmp, 1) := by decide +kernel
theorem dX6_lies_10 : decode cX6_lies 10 = .ok (.ifCond .gt 7, 3) := by decide +kernel
theorem dX6_lies_13 : decode cX6_lies 13 = .ok (.iconst 1, 1) := by decide +kernel
theorem dX6_lies_14 : decode cX6_lies 14 = .ok (.goto 4, 3) := by decide +kernel
theorem dX6_lies_17 : decode cX6_lies 17 = .ok (.iconst 0, 1) := by decide +kernel
theorem dX6_lies_18 : decode cX6_lies 18 = .ok (.ireturn, 1) := by decide +kernel
theorem dX7_init_0 : decode cX7_init 0 = .ok (.aload_n 0, 1) := by decide +kernel
theorem dX7_init_1 : decode cX7_init 1 = .ok (.invokespecial 1, 3) := by decide +kernel
theorem dX7_init_4 : decode cX7_init 4 = .ok (.aload_n 0, 1) := by decide +kernel
theorem dX7_init_5 : decode cX7_init 5 = .ok (.sipush 1000, 3) := by decide +kernel
theorem dX7_init_8 : decode cX7_init 8 = .ok (.newarray .long, 2) := by decide +kernel
theorem dX7_init_10 : decode cX7_init 10 = .ok (.putfield 7, 3) := by decide +kernel
theorem dX7_init_13 : decode cX7_init 13 = .ok (.aload_n 0, 1) := by decide +kernel
theorem dX7_init_14 : decode cX7_init 14 = .ok (.sipush 300, 3) := by decide +kernel
theorem dX7_init_17 : decode cX7_init 17 = .ok (.newarray .byte, 2) := by decide +kernel
theorem dX7_init_19 : decode cX7_init 19 = .ok (.putfield 13, 3) := by decide +kernel
theorem dX7_init_22 : decode cX7_init 22 = .ok (.aload_n 0, 1) := by decide +kernel
theorem dX7_init_23 : decode cX7_init 23 = .ok (.sipush 300, 3) := by decide +kernel
theorem dX7_init_26 : decode cX7_init 26 = .ok (.newarray .long, 2) := by decide +kernel
theorem dX7_init_28 : decode cX7_init 28 = .ok (.putfield 17, 3) := by decide +kernel
theorem dX7_init_31 : decode cX7_init 31 = .ok (.aload_n 0, 1) := by decide +kernel
theorem dX7_init_32 : decode cX7_init 32 = .ok (.sipush 300, 3) := by decide +kernel
theorem dX7_init_35 : decode cX7_init 35 = .ok (.newarray .long, 2) := by decide +kernel
theorem dX7_init_37 : decode cX7_init 37 = .ok (.putfield 20, 3) := by decide +kernel
theorem dX7_init_40 : decode cX7_init 40 = .ok (.aload_n 0, 1) := by decide +kernel
theorem dX7_init_41 : decode cX7_init 41 = .ok (.lconst 1, 1) := by decide +kernel
theorem dX7_init_42 : decode cX7_init 42 = .ok (.putfield 23, 3) := by decide +kernel
theorem dX7_init_45 : decode cX7_init 45 = .ok (.aload_n 0, 1) := by decide +kernel
theorem dX7_init_46 : decode cX7_init 46 = .ok (.lconst 1, 1) := by decide +kernel
theorem dX7_init_47 : decode cX7_init 47 = .ok (.putfield 27, 3) := by decide +kernel
theorem dX7_init_50 : decode cX7_init 50 = .ok (.aload_n 0, 1) := by decide +kernel
theorem dX7_init_51 : decode cX7_init 51 = .ok (.lconst 1, 1) := by decide +kernel
theorem dX7_init_52 : decode cX7_init 52 = .ok (.putfield 30, 3) := by decide +kernel
theorem dX7_init_55 : decode cX7_init 55 = .ok (.return_, 1) := by decide +kernel
theorem dX7_thrown_0 : decode cX7_thrown 0 = .ok (.aload_n 0, 1) := by decide +kernel
theorem dX7_thrown_1 : decode cX7_thrown 1 = .ok (.getfield 33, 3) := by decide +kernel
theorem dX7_thrown_4 : decode cX7_thrown 4 = .ok (.ireturn, 1) := by decide +kernel
theorem dX7_isIn_0 : decode cX7_isIn 0 = .ok (.lload_n 0, 1) := by decide +kernel
theorem dX7_isIn_1 : decode cX7_isIn 1 = .ok (.lload_n 2, 1) := by decide +kernel
theorem dX7_isIn_2 : decode cX7_isIn 2 = .ok (.lcmp, 1) := by decide +kernel
theorem dX7_isIn_3 : decode cX7_isIn 3 = .ok (.ifCond .lt 14, 3) := by decide +kernel
theorem dX7_isIn_6 : decode cX7_isIn 6 = .ok (.lload_n 0, 1) := by decide +kernel
theorem dX7_isIn_7 : decode cX7_isIn 7 = .ok (.lload 4, 2) := by decide +kernel
theorem dX7_isIn_9 : decode cX7_isIn 9 = .ok (.lcmp, 1) := by decide +kernel
theorem dX7_isIn_10 : decode cX7_isIn 10 = .ok (.ifCond .gt 7, 3) := by decide +kernel
theorem dX7_isIn_13 : decode cX7_isIn 13 = .ok (.iconst 1, 1) := by decide +kernel
theorem dX7_isIn_14 : decode cX7_isIn 14 = .ok (.goto 4, 3) := by decide +kernel
theorem dX7_isIn_17 : decode cX7_isIn 17 = .ok (.iconst 0, 1) := by decide +kernel
theorem dX7_isIn_18 : decode cX7_isIn 18 = .ok (.ireturn, 1) := by decide +kernel
theorem dX7_size_0 : decode cX7_size 0 = .ok (.lload_n 0, 1) := by decide +kernel
theorem dX7_size_1 : decode cX7_size 1 = .ok (.lconst 0, 1) := by decide +kernel
theorem dX7_size_2 : decode cX7_size 2 = .ok (.lcmp, 1) := by decide +kernel
theorem dX7_size_3 : decode cX7_size 3 = .ok (.ifCond .ge 8, 3) := by decide +kernel
theorem dX7_size_6 : decode cX7_size 6 = .ok (.lload_n 0, 1) := by decide +kernel
theorem dX7_size_7 : decode cX7_size 7 = .ok (.lneg, 1) := by decide +kernel
theorem dX7_size_8 : decode cX7_size 8 = .ok (.goto 4, 3) := by decide +kernel
theorem dX7_size_11 : decode cX7_size 11 = .ok (.lload_n 0, 1) := by decide +kernel
theorem dX7_size_12 : decode cX7_size 12 = .ok (.lreturn, 1) := by decide +kernel
set_option maxRecDepth 20000 in
theorem ggX7_common_X7_size : GoodIn wsX7_common wsX7_size := goodIn_r _ [4] (by decide +kernel) (by decide +kernel)
set_option maxRecDepth 20000 in
theorem gX7_common_X7_size : GoodIn wsX7_common (va_wsS RX7 37 yX7_size wsX7_size) := goodIn_app (goodIn_of _ (by decide +kernel)) ggX7_common_X7_size
theorem dX7_common_0 : decode cX7_common 0 = .ok (.lload_n 0, 1) := by decide +kernel
theorem dX7_common_1 : decode cX7_common 1 = .ok (.invokestatic 37, 3) := by decide +kernel
theorem dX7_common_4 : decode cX7_common 4 = .ok (.lstore 4, 2) := by decide +kernel
theorem dX7_common_6 : decode cX7_common 6 = .ok (.lload_n 2, 1) := by decide +kernel
theorem dX7_common_7 : decode cX7_common 7 = .ok (.invokestatic 37, 3) := by decide +kernel
theorem dX7_common_10 : decode cX7_common 10 = .ok (.lstore 6, 2) := by decide +kernel
theorem dX7_common_12 : decode cX7_common 12 = .ok (.lload 6, 2) := by decide +kernel
theorem dX7_common_14 : decode cX7_common 14 = .ok (.lconst 0, 1) := by decide +kernel
theorem dX7_common_15 : decode cX7_common 15 = .ok (.lcmp, 1) := by decide +kernel
theorem dX7_common_16 : decode cX7_common 16 = .ok (.ifCond .eq 21, 3) := by decide +kernel
theorem dX7_common_19 : decode cX7_common 19 = .ok (.lload 4, 2) := by decide +kernel
theorem dX7_common_21 : decode cX7_common 21 = .ok (.lload 6, 2) := by decide +kernel
theorem dX7_common_23 : decode cX7_common 23 = .ok (.lrem, 1) := by decide +kernel
theorem dX7_common_24 : decode cX7_common 24 = .ok (.lstore 8, 2) := by decide +kernel
theorem dX7_common_26 : decode cX7_common 26 = .ok (.lload 6, 2) := by decide +kernel
theorem dX7_common_28 : decode cX7_common 28 = .ok (.lstore 4, 2) := by decide +kernel
theorem dX7_common_30 : decode cX7_common 30 = .ok (.lload 8, 2) := by decide +kernel
theorem dX7_common_32 : decode cX7_common 32 = .ok (.lstore 6, 2) := by decide +kernel
theorem dX7_common_34 : decode cX7_common 34 = .ok (.goto (-22), 3) := by decide +kernel
theorem dX7_common_37 : decode cX7_common 37 = .ok (.lload 4, 2) := by decide +kernel
theorem dX7_common_39 : decode cX7_common 39 = .ok (.lreturn, 1) := by decide +kernel
theorem dX7_down_0 : decode cX7_down 0 = .ok (.lload_n 0, 1) := by decide +kernel
theorem dX7_down_1 : decode cX7_down 1 = .ok (.lload_n 2, 1) := by decide +kernel
theorem dX7_down_2 : decode cX7_down 2 = .ok (.ldiv, 1) := by decide +kernel
theorem dX7_down_3 : decode cX7_down 3 = .ok (.lstore 4, 2) := by decide +kernel
theorem dX7_down_5 : decode cX7_down 5 = .ok (.lload_n 0, 1) := by decide +kernel
theorem dX7_down_6 : decode cX7_down 6 = .ok (.lload_n 2, 1) := by decide +kernel
theorem dX7_down_7 : decode cX7_down 7 = .ok (.lrem, 1) := by decide +kernel
theorem dX7_down_8 : decode cX7_down 8 = .ok (.lconst 0, 1) := by decide +kernel
theorem dX7_down_9 : decode cX7_down 9 = .ok (.lcmp, 1) := by decide +kernel
theorem dX7_down_10 : decode cX7_down 10 = .ok (.ifCond .eq 37, 3) := by decide +kernel
theorem dX7_down_13 : decode cX7_down 13 = .ok (.lload_n 0, 1) := by decide +kernel
theorem dX7_down_14 : decode cX7_down 14 = .ok (.lload_n 2, 1) := by decide +kernel
theorem dX7_down_15 : decode cX7_down 15 = .ok (.lrem, 1) := by decide +kernel
theorem dX7_down_16 : decode cX7_down 16 = .ok (.lconst 0, 1) := by decide +kernel
theorem dX7_down_17 : decode cX7_down 17 = .ok (.lcmp, 1) := by decide +kernel
theorem dX7_down_18 : decode cX7_down 18 = .ok (.ifCond .ge 7, 3) := by decide +kernel
theorem dX7_down_21 : decode cX7_down 21 = .ok (.iconst 1, 1) := by decide +kernel
theorem dX7_down_22 : decode cX7_down 22 = .ok (.goto 4, 3) := by decide +kernel
theorem dX7_down_25 : decode cX7_down 25 = .ok (.iconst 0, 1) := by decide +kernel
theorem dX7_down_26 : decode cX7_down 26 = .ok (.lload_n 2, 1) := by decide +kernel
theorem dX7_down_27 : decode cX7_down 27 = .ok (.lconst 0, 1) := by decide +kernel
theorem dX7_down_28 : decode cX7_down 28 = .ok (.lcmp, 1) := by decide +kernel
theorem dX7_down_29 : decode cX7_down 29 = .ok (.ifCond .ge 7, 3) := by decide +kernel
theorem dX7_down_32 : decode cX7_down 32 = .ok (.iconst 1, 1) := by decide +kernel
theorem dX7_down_33 : decode cX7_down 33 = .ok (.goto 4, 3) := by decide +kernel
theorem dX7_down_36 : decode cX7_down 36 = .ok (.iconst 0, 1) := by decide +kernel
theorem dX7_down_37 : decode cX7_down 37 = .ok (.if_icmp .eq 10, 3) := by decide +kernel
theorem dX7_down_40 : decode cX7_down 40 = .ok (.lload 4, 2) := by decide +kernel
theorem dX7_down_42 : decode cX7_down 42 = .ok (.lconst 1, 1) := by decide +kernel
theorem dX7_down_43 : decode cX7_down 43 = .ok (.lsub, 1) := by decide +kernel
theorem dX7_down_44 : decode cX7_down 44 = .ok (.goto 5, 3) := by decide +kernel
theorem dX7_down_47 : decode cX7_down 47 = .ok (.lload 4, 2) := by decide +kernel
theorem dX7_down_49 : decode cX7_down 49 = .ok (.lreturn, 1) := by decide +kernel
set_option maxRecDepth 20000 in
theorem ggX7_rest_X7_down : GoodIn wsX7_rest wsX7_down := goodIn_r _ [4] (by decide +kernel) (by decide +kernel)
set_option maxRecDepth 20000 in
theorem gX7_rest_X7_down : GoodIn wsX7_rest (va_wsS RX7 41 yX7_down wsX7_down) := goodIn_app (goodIn_of _ (by decide +kernel)) ggX7_rest_X7_down
theorem dX7_rest_0 : decode cX7_rest 0 = .ok (.lload_n 0, 1) := by decide +kernel
theorem dX7_rest_1 : decode cX7_rest 1 = .ok (.lload_n 2, 1) := by decide +kernel
theorem dX7_rest_2 : decode cX7_rest 2 = .ok (.lload_n 0, 1) := by decide +kernel
theorem dX7_rest_3 : decode cX7_rest 3 = .ok (.lload_n 2, 1) := by decide +kernel
theorem dX7_rest_4 : decode cX7_rest 4 = .ok (.invokestatic 41, 3) := by decide +kernel
theorem dX7_rest_7 : decode cX7_rest 7 = .ok (.lmul, 1) := by decide +kernel
theorem dX7_rest_8 : decode cX7_rest 8 = .ok (.lsub, 1) := by decide +kernel
theorem dX7_rest_9 : decode cX7_rest 9 = .ok (.lreturn, 1) := by decide +kernel
set_option maxRecDepth 20000 in
theorem ggX7_lays_X7_common : GoodIn wsX7_lays wsX7_common := goodIn_r _ [6, 7, 8, 5, 9] (by decide +kernel) (by decide +kernel)
set_option maxRecDepth 20000 in
theorem gX7_lays_X7_common : GoodIn wsX7_lays (va_wsS RX7 45 yX7_common wsX7_common) := goodIn_app (goodIn_of _ (by decide +kernel)) ggX7_lays_X7_common
theorem dX7_lays_0 : decode cX7_lays 0 = .ok (.lload_n 1, 1) := by decide +kernel
theorem dX7_lays_1 : decode cX7_lays 1 = .ok (.lload_n 3, 1) := by decide +kernel
theorem dX7_lays_2 : decode cX7_lays 2 = .ok (.invokestatic 45, 3) := by decide +kernel
theorem dX7_lays_5 : decode cX7_lays 5 = .ok (.lstore 5, 2) := by decide +kernel
theorem dX7_lays_7 : decode cX7_lays 7 = .ok (.lload_n 3, 1) := by decide +kernel
theorem dX7_lays_8 : decode cX7_lays 8 = .ok (.lconst 0, 1) := by decide +kernel
theorem dX7_lays_9 : decode cX7_lays 9 = .ok (.lcmp, 1) := by decide +kernel
theorem dX7_lays_10 : decode cX7_lays 10 = .ok (.ifCond .ge 9, 3) := by decide +kernel
theorem dX7_lays_13 : decode cX7_lays 13 = .ok (.lload 5, 2) := by decide +kernel
theorem dX7_lays_15 : decode cX7_lays 15 = .ok (.lneg, 1) := by decide +kernel
theorem dX7_lays_16 : decode cX7_lays 16 = .ok (.goto 5, 3) := by decide +kernel
theorem dX7_lays_19 : decode cX7_lays 19 = .ok (.lload 5, 2) := by decide +kernel
theorem dX7_lays_21 : decode cX7_lays 21 = .ok (.lstore 5, 2) := by decide +kernel
theorem dX7_lays_23 : decode cX7_lays 23 = .ok (.aload_n 0, 1) := by decide +kernel
theorem dX7_lays_24 : decode cX7_lays 24 = .ok (.lload_n 1, 1) := by decide +kernel
theorem dX7_lays_25 : decode cX7_lays 25 = .ok (.lload 5, 2) := by decide +kernel
theorem dX7_lays_27 : decode cX7_lays 27 = .ok (.ldiv, 1) := by decide +kernel
theorem dX7_lays_28 : decode cX7_lays 28 = .ok (.putfield 48, 3) := by decide +kernel
theorem dX7_lays_31 : decode cX7_lays 31 = .ok (.aload_n 0, 1) := by decide +kernel
theorem dX7_lays_32 : decode cX7_lays 32 = .ok (.lload_n 3, 1) := by decide +kernel
theorem dX7_lays_33 : decode cX7_lays 33 = .ok (.lload 5, 2) := by decide +kernel
theorem dX7_lays_35 : decode cX7_lays 35 = .ok (.ldiv, 1) := by decide +kernel
theorem dX7_lays_36 : decode cX7_lays 36 = .ok (.putfield 51, 3) := by decide +kernel
theorem dX7_lays_39 : decode cX7_lays 39 = .ok (.return_, 1) := by decide +kernel
theorem dX7_latest_0 : decode cX7_latest 0 = .ok (.iload_n 1, 1) := by decide +kernel
theorem dX7_latest_1 : decode cX7_latest 1 = .ok (.ifCond .eq 10, 3) := by decide +kernel
theorem dX7_latest_4 : decode cX7_latest 4 = .ok (.aload_n 0, 1) := by decide +kernel
theorem dX7_latest_5 : decode cX7_latest 5 = .ok (.getfield 51, 3) := by decide +kernel
theorem dX7_latest_8 : decode cX7_latest 8 = .ok (.goto 7, 3) := by decide +kernel
theorem dX7_latest_11 : decode cX7_latest 11 = .ok (.aload_n 0, 1) := by decide +kernel
theorem dX7_latest_12 : decode cX7_latest 12 = .ok (.getfield 48, 3) := by decide +kernel
theorem dX7_latest_15 : decode cX7_latest 15 = .ok (.lreturn, 1) := by decide +kernel
set_option maxRecDepth 20000 in
theorem ggX7_twelve_X7_rest : GoodIn wsX7_twelve wsX7_rest := goodIn_r _ [5, 6, 7, 4, 8] (by decide +kernel) (by decide +kernel)
set_option maxRecDepth 20000 in
theorem gX7_twelve_X7_rest : GoodIn wsX7_twelve (va_wsS RX7 54 yX7_rest wsX7_rest) := goodIn_app (goodIn_of _ (by decide +kernel)) ggX7_twelve_X7_rest
theorem dX7_twelve_0 : decode cX7_twelve 0 = .ok (.lload_n 0, 1) := by decide +kernel
theorem dX7_twelve_1 : decode cX7_twelve 1 = .ok (.lload_n 2, 1) := by decide +kernel
theorem dX7_twelve_2 : decode cX7_twelve 2 = .ok (.invokestatic 54, 3) := by decide +kernel
theorem dX7_twelve_5 : decode cX7_twelve 5 = .ok (.lstore 4, 2) := by decide +kernel
theorem dX7_twelve_7 : decode cX7_twelve 7 = .ok (.lload_n 2, 1) := by decide +kernel
theorem dX7_twelve_8 : decode cX7_twelve 8 = .ok (.lstore 6, 2) := by decide +kernel
theorem dX7_twelve_10 : decode cX7_twelve 10 = .ok (.lload_n 2, 1) := by decide +kernel
theorem dX7_twelve_11 : decode cX7_twelve 11 = .ok (.lconst 1, 1) := by decide +kernel
theorem dX7_twelve_12 : decode cX7_twelve 12 = .ok (.lcmp, 1) := by decide +kernel
theorem dX7_twelve_13 : decode cX7_twelve 13 = .ok (.ifCond .ne 5, 3) := by decide +kernel
theorem dX7_twelve_16 : decode cX7_twelve 16 = .ok (.lconst 0, 1) := by decide +kernel
theorem dX7_twelve_17 : decode cX7_twelve 17 = .ok (.lreturn, 1) := by decide +kernel
theorem dX7_twelve_18 : decode cX7_twelve 18 = .ok (.lconst 0, 1) := by decide +kernel
theorem dX7_twelve_19 : decode cX7_twelve 19 = .ok (.lstore 8, 2) := by decide +kernel
theorem dX7_twelve_21 : decode cX7_twelve 21 = .ok (.lconst 1, 1) := by decide +kernel
theorem dX7_twelve_22 : decode cX7_twelve 22 = .ok (.lstore 10, 2) := by decide +kernel
theorem dX7_twelve_24 : decode cX7_twelve 24 = .ok (.lconst 1, 1) := by decide +kernel
theorem dX7_twelve_25 : decode cX7_twelve 25 = .ok (.lstore 12, 2) := by decide +kernel
theorem dX7_twelve_27 : decode cX7_twelve 27 = .ok (.lconst 0, 1) := by decide +kernel
theorem dX7_twelve_28 : decode cX7_twelve 28 = .ok (.lstore 14, 2) := by decide +kernel
theorem dX7_twelve_30 : decode cX7_twelve 30 = .ok (.lload 4, 2) := by decide +kernel
theorem dX7_twelve_32 : decode cX7_twelve 32 = .ok (.lconst 0, 1) := by decide +kernel
theorem dX7_twelve_33 : decode cX7_twelve 33 = .ok (.lcmp, 1) := by decide +kernel
theorem dX7_twelve_34 : decode cX7_twelve 34 = .ok (.ifCond .eq 61, 3) := by decide +kernel
theorem dX7_twelve_37 : decode cX7_twelve 37 = .ok (.lload 6, 2) := by decide +kernel
theorem dX7_twelve_39 : decode cX7_twelve 39 = .ok (.lload 4, 2) := by decide +kernel
theorem dX7_twelve_41 : decode cX7_twelve 41 = .ok (.ldiv, 1) := by decide +kernel
theorem dX7_twelve_42 : decode cX7_twelve 42 = .ok (.lstore 16, 2) := by decide +kernel
theorem dX7_twelve_44 : decode cX7_twelve 44 = .ok (.lload 8, 2) := by decide +kernel
theorem dX7_twelve_46 : decode cX7_twelve 46 = .ok (.lload 10, 2) := by decide +kernel
theorem dX7_twelve_48 : decode cX7_twelve 48 = .ok (.lload 16, 2) := by decide +kernel
theorem dX7_twelve_50 : decode cX7_twelve 50 = .ok (.lmul, 1) := by decide +kernel
theorem dX7_twelve_51 : decode cX7_twelve 51 = .ok (.ladd, 1) := by decide +kernel
theorem dX7_twelve_52 : decode cX7_twelve 52 = .ok (.lstore 8, 2) := by decide +kernel
theorem dX7_twelve_54 : decode cX7_twelve 54 = .ok (.lload 16, 2) := by decide +kernel
theorem dX7_twelve_56 : decode cX7_twelve 56 = .ok (.lload 12, 2) := by decide +kernel
theorem dX7_twelve_58 : decode cX7_twelve 58 = .ok (.lmul, 1) := by decide +kernel
theorem dX7_twelve_59 : decode cX7_twelve 59 = .ok (.lload 14, 2) := by decide +kernel
theorem dX7_twelve_61 : decode cX7_twelve 61 = .ok (.ladd, 1) := by decide +kernel
theorem dX7_twelve_62 : decode cX7_twelve 62 = .ok (.lstore 18, 2) := by decide +kernel
theorem dX7_twelve_64 : decode cX7_twelve 64 = .ok (.lload 12, 2) := by decide +kernel
theorem dX7_twelve_66 : decode cX7_twelve 66 = .ok (.lstore 14, 2) := by decide +kernel
theorem dX7_twelve_68 : decode cX7_twelve 68 = .ok (.lload 18, 2) := by decide +kernel
theorem dX7_twelve_70 : decode cX7_twelve 70 = .ok (.lstore 12, 2) := by decide +kernel
theorem dX7_twelve_72 : decode cX7_twelve 72 = .ok (.lload 6, 2) := by decide +kernel
theorem dX7_twelve_74 : decode cX7_twelve 74 = .ok (.lload 4, 2) := by decide +kernel
theorem dX7_twelve_76 : decode cX7_twelve 76 = .ok (.lrem, 1) := by decide +kernel
theorem dX7_twelve_77 : decode cX7_twelve 77 = .ok (.lstore 20, 2) := by decide +kernel
theorem dX7_twelve_79 : decode cX7_twelve 79 = .ok (.lload 4, 2) := by decide +kernel
theorem dX7_twelve_81 : decode cX7_twelve 81 = .ok (.lstore 6, 2) := by decide +kernel
theorem dX7_twelve_83 : decode cX7_twelve 83 = .ok (.lload 20, 2) := by decide +kernel
theorem dX7_twelve_85 : decode cX7_twelve 85 = .ok (.lstore 4, 2) := by decide +kernel
theorem dX7_twelve_87 : decode cX7_twelve 87 = .ok (.lload 10, 2) := by decide +kernel
theorem dX7_twelve_89 : decode cX7_twelve 89 = .ok (.lneg, 1) := by decide +kernel
theorem dX7_twelve_90 : decode cX7_twelve 90 = .ok (.lstore 10, 2) := by decide +kernel
theorem dX7_twelve_92 : decode cX7_twelve 92 = .ok (.goto (-62), 3) := by decide +kernel
theorem dX7_twelve_95 : decode cX7_twelve 95 = .ok (.lload 10, 2) := by decide +kernel
theorem dX7_twelve_97 : decode cX7_twelve 97 = .ok (.lconst 0, 1) := by decide +kernel
theorem dX7_twelve_98 : decode cX7_twelve 98 = .ok (.lcmp, 1) := by decide +kernel
theorem dX7_twelve_99 : decode cX7_twelve 99 = .ok (.ifCond .ge 7, 3) := by decide +kernel
theorem dX7_twelve_102 : decode cX7_twelve 102 = .ok (.lconst 1, 1) := by decide +kernel
theorem dX7_twelve_103 : decode cX7_twelve 103 = .ok (.goto 4, 3) := by decide +kernel
theorem dX7_twelve_106 : decode cX7_twelve 106 = .ok (.lconst 0, 1) := by decide +kernel
theorem dX7_twelve_107 : decode cX7_twelve 107 = .ok (.lstore 16, 2) := by decide +kernel
theorem dX7_twelve_109 : decode cX7_twelve 109 = .ok (.lload_n 2, 1) := by decide +kernel
theorem dX7_twelve_110 : decode cX7_twelve 110 = .ok (.lload 8, 2) := by decide +kernel
theorem dX7_twelve_112 : decode cX7_twelve 112 = .ok (.lmul, 1) := by decide +kernel
theorem dX7_twelve_113 : decode cX7_twelve 113 = .ok (.ldc2_w 57, 3) := by decide +kernel
theorem dX7_twelve_116 : decode cX7_twelve 116 = .ok (.lload 16, 2) := by decide +kernel
theorem dX7_twelve_118 : decode cX7_twelve 118 = .ok (.lmul, 1) := by decide +kernel
theorem dX7_twelve_119 : decode cX7_twelve 119 = .ok (.lload_n 2, 1) := by decide +kernel
theorem dX7_twelve_120 : decode cX7_twelve 120 = .ok (.lmul, 1) := by decide +kernel
theorem dX7_twelve_121 : decode cX7_twelve 121 = .ok (.lsub, 1) := by decide +kernel
theorem dX7_twelve_122 : decode cX7_twelve 122 = .ok (.lload_n 0, 1) := by decide +kernel
theorem dX7_twelve_123 : decode cX7_twelve 123 = .ok (.lload_n 2, 1) := by decide +kernel
theorem dX7_twelve_124 : decode cX7_twelve 124 = .ok (.invokestatic 54, 3) := by decide +kernel
theorem dX7_twelve_127 : decode cX7_twelve 127 = .ok (.ladd, 1) := by decide +kernel
theorem dX7_twelve_128 : decode cX7_twelve 128 = .ok (.lload 16, 2) := by decide +kernel
theorem dX7_twelve_130 : decode cX7_twelve 130 = .ok (.lconst 1, 1) := by decide +kernel
theorem dX7_twelve_131 : decode cX7_twelve 131 = .ok (.lcmp, 1) := by decide +kernel
theorem dX7_twelve_132 : decode cX7_twelve 132 = .ok (.ifCond .ne 8, 3) := by decide +kernel
theorem dX7_twelve_135 : decode cX7_twelve 135 = .ok (.lload 14, 2) := by decide +kernel
theorem dX7_twelve_137 : decode cX7_twelve 137 = .ok (.goto 6, 3) := by decide +kernel
theorem dX7_twelve_140 : decode cX7_twelve 140 = .ok (.lload 14, 2) := by decide +kernel
theorem dX7_twelve_142 : decode cX7_twelve 142 = .ok (.lneg, 1) := by decide +kernel
theorem dX7_twelve_143 : decode cX7_twelve 143 = .ok (.ladd, 1) := by decide +kernel
theorem dX7_twelve_144 : decode cX7_twelve 144 = .ok (.lreturn, 1) := by decide +kernel
set_option maxRecDepth 20000 in
theorem ggX7_laysSum_X7_common : GoodIn wsX7_laysSum wsX7_common := goodIn_r _ [5, 6, 7, 4, 8] (by decide +kernel) (by decide +kernel)
set_option maxRecDepth 20000 in
theorem gX7_laysSum_X7_common : GoodIn wsX7_laysSum (va_wsS RX7 45 yX7_common wsX7_common) := goodIn_app (goodIn_of _ (by decide +kernel)) ggX7_laysSum_X7_common
set_option maxRecDepth 20000 in
theorem ggX7_laysSum_X7_twelve : GoodIn wsX7_laysSum wsX7_twelve := goodIn_r _ [11, 12, 13, 14, 4, 15, 16, 17, 18] (by decide +kernel) (by decide +kernel)
set_option maxRecDepth 20000 in
theorem gX7_laysSum_X7_twelve : GoodIn wsX7_laysSum (va_wsS RX7 59 yX7_twelve wsX7_twelve) := goodIn_app (goodIn_of _ (by decide +kernel)) ggX7_laysSum_X7_twelve
set_option maxRecDepth 20000 in
theorem ggX7_laysSum_X7_lays : GoodIn wsX7_laysSum wsX7_lays := goodIn_r _ [22, 23, 24, 2, 3, 4, 5, 6, 7, 8, 25, 26, 27, 28, 29, 30, 31, 32, 33, 34, 35, 36, 37, 38, 39, 40, 41, 42, 43, 44, 45, 46, 47, 48] (by decide +kernel) (by decide +kernel)
set_option maxRecDepth 20000 in
theorem gX7_laysSum_X7_lays : GoodIn wsX7_laysSum (wsV RX7 64 RX7 yX7_lays wsX7_lays) := goodIn_app (goodIn_of _ (by decide +kernel)) ggX7_laysSum_X7_lays
theorem dX7_laysSum_0 : decode cX7_laysSum 0 = .ok (.lload_n 1, 1) := by decide +kernel
theorem dX7_laysSum_1 : decode cX7_laysSum 1 = .ok (.lload_n 3, 1) := by decide +kernel
theorem dX7_laysSum_2 : decode cX7_laysSum 2 = .ok (.invokestatic 45, 3) := by decide +kernel
theorem dX7_laysSum_5 : decode cX7_laysSum 5 = .ok (.lstore 5, 2) := by decide +kernel
theorem dX7_laysSum_7 : decode cX7_laysSum 7 = .ok (.aload_n 0, 1) := by decide +kernel
theorem dX7_laysSum_8 : decode cX7_laysSum 8 = .ok (.lload_n 1, 1) := by decide +kernel
theorem dX7_laysSum_9 : decode cX7_laysSum 9 = .ok (.lload 5, 2) := by decide +kernel
theorem dX7_laysSum_11 : decode cX7_laysSum 11 = .ok (.ldiv, 1) := by decide +kernel
theorem dX7_laysSum_12 : decode cX7_laysSum 12 = .ok (.lload_n 3, 1) := by decide +kernel
theorem dX7_laysSum_13 : decode cX7_laysSum 13 = .ok (.lload 5, 2) := by decide +kernel
theorem dX7_laysSum_15 : decode cX7_laysSum 15 = .ok (.ldiv, 1) := by decide +kernel
theorem dX7_laysSum_16 : decode cX7_laysSum 16 = .ok (.invokestatic 59, 3) := by decide +kernel
theorem dX7_laysSum_19 : decode cX7_laysSum 19 = .ok (.ldc2_w 62, 3) := by decide +kernel
theorem dX7_laysSum_22 : decode cX7_laysSum 22 = .ok (.lload_n 3, 1) := by decide +kernel
theorem dX7_laysSum_23 : decode cX7_laysSum 23 = .ok (.lload 5, 2) := by decide +kernel
theorem dX7_laysSum_25 : decode cX7_laysSum 25 = .ok (.ldiv, 1) := by decide +kernel
theorem dX7_laysSum_26 : decode cX7_laysSum 26 = .ok (.lmul, 1) := by decide +kernel
theorem dX7_laysSum_27 : decode cX7_laysSum 27 = .ok (.invokevirtual 64, 3) := by decide +kernel
theorem dX7_laysSum_30 : decode cX7_laysSum 30 = .ok (.return_, 1) := by decide +kernel
set_option maxRecDepth 20000 in
theorem ggX7_saw_X7_isIn : GoodIn wsX7_saw wsX7_isIn := goodIn_r _ [8] (by decide +kernel) (by decide +kernel)
set_option maxRecDepth 20000 in
theorem gX7_saw_X7_isIn : GoodIn wsX7_saw (va_wsS RX7 72 yX7_isIn wsX7_isIn) := goodIn_app (goodIn_of _ (by decide +kernel)) ggX7_saw_X7_isIn
set_option maxRecDepth 20000 in
theorem ggX7_saw_X7_laysSaw : GoodIn wsX7_saw wsX7_laysSaw := goodIn_r _ [12, 13, 14, 15, 16, 17, 18, 7, 19, 20, 21, 22, 23, 24, 25, 26, 27, 28, 29, 30, 31, 36, 37, 38, 39, 40, 41, 42, 43, 44, 45, 46, 47, 48, 49, 50, 51, 52, 53, 54, 55, 56, 57, 58, 59] (by decide +kernel) (by decide +kernel)
set_option maxRecDepth 20000 in
theorem gX7_saw_X7_laysSaw : GoodIn wsX7_saw (wsV RX7 78 RX7 yX7_laysSaw wsX7_laysSaw) := goodIn_app (goodIn_of _ (by decide +kernel)) ggX7_saw_X7_laysSaw
set_option maxRecDepth 20000 in
theorem ggX7_saw_X7_latest : GoodIn wsX7_saw wsX7_latest := goodIn_r _ [35, 14, 13, 36, 37, 38, 39, 40, 41, 42, 43, 44, 45, 46, 47, 48, 49, 50, 51, 52, 53, 54, 55, 56, 57, 58, 59] (by decide +kernel) (by decide +kernel)
set_option maxRecDepth 20000 in
theorem gX7_saw_X7_latest : GoodIn wsX7_saw (wsV RX7 81 RX7 yX7_latest wsX7_latest) := goodIn_app (goodIn_of _ (by decide +kernel)) ggX7_saw_X7_latest
theorem dX7_saw_0 : decode cX7_saw 0 = .ok (.aload_n 0, 1) := by decide +kernel
theorem dX7_saw_1 : decode cX7_saw 1 = .ok (.iconst 0, 1) := by decide +kernel
theorem dX7_saw_2 : decode cX7_saw 2 = .ok (.putfield 33, 3) := by decide +kernel
theorem dX7_saw_5 : decode cX7_saw 5 = .ok (.iload_n 2, 1) := by decide +kernel
theorem dX7_saw_6 : decode cX7_saw 6 = .ok (.ifCond .eq 31, 3) := by decide +kernel
theorem dX7_saw_9 : decode cX7_saw 9 = .ok (.iload_n 1, 1) := by decide +kernel
theorem dX7_saw_10 : decode cX7_saw 10 = .ok (.i2l, 1) := by decide +kernel
theorem dX7_saw_11 : decode cX7_saw 11 = .ok (.ldc2_w 68, 3) := by decide +kernel
theorem dX7_saw_14 : decode cX7_saw 14 = .ok (.ldc2_w 70, 3) := by decide +kernel
theorem dX7_saw_17 : decode cX7_saw 17 = .ok (.invokestatic 72, 3) := by decide +kernel
theorem dX7_saw_20 : decode cX7_saw 20 = .ok (.ifCond .eq 17, 3) := by decide +kernel
theorem dX7_saw_23 : decode cX7_saw 23 = .ok (.iload_n 2, 1) := by decide +kernel
theorem dX7_saw_24 : decode cX7_saw 24 = .ok (.i2l, 1) := by decide +kernel
theorem dX7_saw_25 : decode cX7_saw 25 = .ok (.ldc2_w 68, 3) := by decide +kernel
theorem dX7_saw_28 : decode cX7_saw 28 = .ok (.ldc2_w 70, 3) := by decide +kernel
theorem dX7_saw_31 : decode cX7_saw 31 = .ok (.invokestatic 72, 3) := by decide +kernel
theorem dX7_saw_34 : decode cX7_saw 34 = .ok (.ifCond .ne 7, 3) := by decide +kernel
theorem dX7_saw_37 : decode cX7_saw 37 = .ok (.ldc2_w 76, 3) := by decide +kernel
theorem dX7_saw_40 : decode cX7_saw 40 = .ok (.lreturn, 1) := by decide +kernel
theorem dX7_saw_41 : decode cX7_saw 41 = .ok (.aload_n 0, 1) := by decide +kernel
theorem dX7_saw_42 : decode cX7_saw 42 = .ok (.iload_n 1, 1) := by decide +kernel
theorem dX7_saw_43 : decode cX7_saw 43 = .ok (.i2l, 1) := by decide +kernel
theorem dX7_saw_44 : decode cX7_saw 44 = .ok (.iload_n 2, 1) := by decide +kernel
theorem dX7_saw_45 : decode cX7_saw 45 = .ok (.i2l, 1) := by decide +kernel
theorem dX7_saw_46 : decode cX7_saw 46 = .ok (.invokevirtual 78, 3) := by decide +kernel
theorem dX7_saw_49 : decode cX7_saw 49 = .ok (.aload_n 0, 1) := by decide +kernel
theorem dX7_saw_50 : decode cX7_saw 50 = .ok (.iload_n 3, 1) := by decide +kernel
theorem dX7_saw_51 : decode cX7_saw 51 = .ok (.invokevirtual 81, 3) := by decide +kernel
theorem dX7_saw_54 : decode cX7_saw 54 = .ok (.lreturn, 1) := by decide +kernel
set_option maxRecDepth 20000 in
theorem ggX7_laysSaw_X7_lays : GoodIn wsX7_laysSaw wsX7_lays := goodIn_r _ [8, 1, 2, 9, 10, 7, 11, 12, 13, 14, 21, 22, 23, 24, 25, 26, 27, 28, 29, 30, 31, 32, 33, 34, 35, 36, 37, 38, 39, 40, 41, 42, 43, 44] (by decide +kernel) (by decide +kernel)
set_option maxRecDepth 20000 in
theorem gX7_laysSaw_X7_lays : GoodIn wsX7_laysSaw (wsV RX7 64 RX7 yX7_lays wsX7_lays) := goodIn_app (goodIn_of _ (by decide +kernel)) ggX7_laysSaw_X7_lays
set_option maxRecDepth 20000 in
theorem ggX7_laysSaw_X7_rest : GoodIn wsX7_laysSaw wsX7_rest := goodIn_r _ [17, 18, 19, 7, 20] (by decide +kernel) (by decide +kernel)
set_option maxRecDepth 20000 in
theorem gX7_laysSaw_X7_rest : GoodIn wsX7_laysSaw (va_wsS RX7 54 yX7_rest wsX7_rest) := goodIn_app (goodIn_of _ (by decide +kernel)) ggX7_laysSaw_X7_rest
theorem dX7_laysSaw_0 : decode cX7_laysSaw 0 = .ok (.aload_n 0, 1) := by decide +kernel
theorem dX7_laysSaw_1 : decode cX7_laysSaw 1 = .ok (.lload_n 1, 1) := by decide +kernel
theorem dX7_laysSaw_2 : decode cX7_laysSaw 2 = .ok (.lload_n 3, 1) := by decide +kernel
theorem dX7_laysSaw_3 : decode cX7_laysSaw 3 = .ok (.invokevirtual 64, 3) := by decide +kernel
theorem dX7_laysSaw_6 : decode cX7_laysSaw 6 = .ok (.aload_n 0, 1) := by decide +kernel
theorem dX7_laysSaw_7 : decode cX7_laysSaw 7 = .ok (.getfield 48, 3) := by decide +kernel
theorem dX7_laysSaw_10 : decode cX7_laysSaw 10 = .ok (.aload_n 0, 1) := by decide +kernel
theorem dX7_laysSaw_11 : decode cX7_laysSaw 11 = .ok (.getfield 51, 3) := by decide +kernel
theorem dX7_laysSaw_14 : decode cX7_laysSaw 14 = .ok (.invokestatic 54, 3) := by decide +kernel
theorem dX7_laysSaw_17 : decode cX7_laysSaw 17 = .ok (.lstore 5, 2) := by decide +kernel
theorem dX7_laysSaw_19 : decode cX7_laysSaw 19 = .ok (.aload_n 0, 1) := by decide +kernel
theorem dX7_laysSaw_20 : decode cX7_laysSaw 20 = .ok (.getfield 51, 3) := by decide +kernel
theorem dX7_laysSaw_23 : decode cX7_laysSaw 23 = .ok (.lconst 1, 1) := by decide +kernel
theorem dX7_laysSaw_24 : decode cX7_laysSaw 24 = .ok (.lcmp, 1) := by decide +kernel
theorem dX7_laysSaw_25 : decode cX7_laysSaw 25 = .ok (.ifCond .ne 12, 3) := by decide +kernel
theorem dX7_laysSaw_28 : decode cX7_laysSaw 28 = .ok (.aload_n 0, 1) := by decide +kernel
theorem dX7_laysSaw_29 : decode cX7_laysSaw 29 = .ok (.lconst 0, 1) := by decide +kernel
theorem dX7_laysSaw_30 : decode cX7_laysSaw 30 = .ok (.lconst 1, 1) := by decide +kernel
theorem dX7_laysSaw_31 : decode cX7_laysSaw 31 = .ok (.invokevirtual 64, 3) := by decide +kernel
theorem dX7_laysSaw_34 : decode cX7_laysSaw 34 = .ok (.goto 26, 3) := by decide +kernel
theorem dX7_laysSaw_37 : decode cX7_laysSaw 37 = .ok (.aload_n 0, 1) := by decide +kernel
theorem dX7_laysSaw_38 : decode cX7_laysSaw 38 = .ok (.ldc2_w 85, 3) := by decide +kernel
theorem dX7_laysSaw_41 : decode cX7_laysSaw 41 = .ok (.lload 5, 2) := by decide +kernel
theorem dX7_laysSaw_43 : decode cX7_laysSaw 43 = .ok (.lmul, 1) := by decide +kernel
theorem dX7_laysSaw_44 : decode cX7_laysSaw 44 = .ok (.aload_n 0, 1) := by decide +kernel
theorem dX7_laysSaw_45 : decode cX7_laysSaw 45 = .ok (.getfield 51, 3) := by decide +kernel
theorem dX7_laysSaw_48 : decode cX7_laysSaw 48 = .ok (.lsub, 1) := by decide +kernel
theorem dX7_laysSaw_49 : decode cX7_laysSaw 49 = .ok (.ldc2_w 85, 3) := by decide +kernel
theorem dX7_laysSaw_52 : decode cX7_laysSaw 52 = .ok (.aload_n 0, 1) := by decide +kernel
theorem dX7_laysSaw_53 : decode cX7_laysSaw 53 = .ok (.getfield 51, 3) := by decide +kernel
theorem dX7_laysSaw_56 : decode cX7_laysSaw 56 = .ok (.lmul, 1) := by decide +kernel
theorem dX7_laysSaw_57 : decode cX7_laysSaw 57 = .ok (.invokevirtual 64, 3) := by decide +kernel
theorem dX7_laysSaw_60 : decode cX7_laysSaw 60 = .ok (.return_, 1) := by decide +kernel
set_option maxRecDepth 20000 in
theorem ggX7_sum_X7_isIn : GoodIn wsX7_sum wsX7_isIn := goodIn_r _ [7] (by decide +kernel) (by decide +kernel)
set_option maxRecDepth 20000 in
theorem gX7_sum_X7_isIn : GoodIn wsX7_sum (va_wsS RX7 72 yX7_isIn wsX7_isIn) := goodIn_app (goodIn_of _ (by decide +kernel)) ggX7_sum_X7_isIn
set_option maxRecDepth 20000 in
theorem ggX7_sum_X7_laysSum : GoodIn wsX7_sum wsX7_laysSum := goodIn_r _ [11, 12, 13, 14, 6, 15, 16, 17, 18, 19, 20, 21, 22, 23, 24, 25, 26, 27, 28, 29, 30, 31, 32, 33, 34, 39, 40, 41, 42, 43, 44, 45, 46, 47, 48, 49, 50, 51, 52, 53, 54, 55, 56, 57, 58, 59, 60, 61, 62] (by decide +kernel) (by decide +kernel)
set_option maxRecDepth 20000 in
theorem gX7_sum_X7_laysSum : GoodIn wsX7_sum (wsV RX7 87 RX7 yX7_laysSum wsX7_laysSum) := goodIn_app (goodIn_of _ (by decide +kernel)) ggX7_sum_X7_laysSum
set_option maxRecDepth 20000 in
theorem ggX7_sum_X7_latest : GoodIn wsX7_sum wsX7_latest := goodIn_r _ [38, 34, 33, 39, 40, 41, 42, 43, 44, 45, 46, 47, 48, 49, 50, 51, 52, 53, 54, 55, 56, 57, 58, 59, 60, 61, 62] (by decide +kernel) (by decide +kernel)
set_option maxRecDepth 20000 in
theorem gX7_sum_X7_latest : GoodIn wsX7_sum (wsV RX7 81 RX7 yX7_latest wsX7_latest) := goodIn_app (goodIn_of _ (by decide +kernel)) ggX7_sum_X7_latest
theorem dX7_sum_0 : decode cX7_sum 0 = .ok (.aload_n 0, 1) := by decide +kernel
theorem dX7_sum_1 : decode cX7_sum 1 = .ok (.iconst 0, 1) := by decide +kernel
theorem dX7_sum_2 : decode cX7_sum 2 = .ok (.putfield 33, 3) := by decide +kernel
theorem dX7_sum_5 : decode cX7_sum 5 = .ok (.iload_n 2, 1) := by decide +kernel
theorem dX7_sum_6 : decode cX7_sum 6 = .ok (.i2l, 1) := by decide +kernel
theorem dX7_sum_7 : decode cX7_sum 7 = .ok (.lconst 1, 1) := by decide +kernel
theorem dX7_sum_8 : decode cX7_sum 8 = .ok (.ldc2_w 70, 3) := by decide +kernel
theorem dX7_sum_11 : decode cX7_sum 11 = .ok (.invokestatic 72, 3) := by decide +kernel
theorem dX7_sum_14 : decode cX7_sum 14 = .ok (.ifCond .ne 7, 3) := by decide +kernel
theorem dX7_sum_17 : decode cX7_sum 17 = .ok (.ldc2_w 76, 3) := by decide +kernel
theorem dX7_sum_20 : decode cX7_sum 20 = .ok (.lreturn, 1) := by decide +kernel
theorem dX7_sum_21 : decode cX7_sum 21 = .ok (.aload_n 0, 1) := by decide +kernel
theorem dX7_sum_22 : decode cX7_sum 22 = .ok (.iload_n 1, 1) := by decide +kernel
theorem dX7_sum_23 : decode cX7_sum 23 = .ok (.i2l, 1) := by decide +kernel
theorem dX7_sum_24 : decode cX7_sum 24 = .ok (.iload_n 2, 1) := by decide +kernel
theorem dX7_sum_25 : decode cX7_sum 25 = .ok (.i2l, 1) := by decide +kernel
theorem dX7_sum_26 : decode cX7_sum 26 = .ok (.invokevirtual 87, 3) := by decide +kernel
theorem dX7_sum_29 : decode cX7_sum 29 = .ok (.aload_n 0, 1) := by decide +kernel
theorem dX7_sum_30 : decode cX7_sum 30 = .ok (.iload_n 3, 1) := by decide +kernel
theorem dX7_sum_31 : decode cX7_sum 31 = .ok (.invokevirtual 81, 3) := by decide +kernel
theorem dX7_sum_34 : decode cX7_sum 34 = .ok (.lreturn, 1) := by decide +kernel
set_option maxRecDepth 20000 in
theorem ggX7_adds_X7_lays : GoodIn wsX7_adds wsX7_lays := goodIn_r _ [7, 1, 2, 8, 9, 6, 10, 11, 12, 13, 14, 15, 16, 17, 18, 19, 20, 21, 22, 23, 24, 25, 26, 27, 28, 29, 30, 31, 32, 33, 34, 35, 36, 37] (by decide +kernel) (by decide +kernel)
set_option maxRecDepth 20000 in
theorem gX7_adds_X7_lays : GoodIn wsX7_adds (wsV RX7 64 RX7 yX7_lays wsX7_lays) := goodIn_app (goodIn_of _ (by decide +kernel)) ggX7_adds_X7_lays
theorem dX7_adds_0 : decode cX7_adds 0 = .ok (.aload_n 0, 1) := by decide +kernel
theorem dX7_adds_1 : decode cX7_adds 1 = .ok (.aload_n 0, 1) := by decide +kernel
theorem dX7_adds_2 : decode cX7_adds 2 = .ok (.getfield 48, 3) := by decide +kernel
theorem dX7_adds_5 : decode cX7_adds 5 = .ok (.lload_n 3, 1) := by decide +kernel
theorem dX7_adds_6 : decode cX7_adds 6 = .ok (.lmul, 1) := by decide +kernel
theorem dX7_adds_7 : decode cX7_adds 7 = .ok (.lload_n 1, 1) := by decide +kernel
theorem dX7_adds_8 : decode cX7_adds 8 = .ok (.aload_n 0, 1) := by decide +kernel
theorem dX7_adds_9 : decode cX7_adds 9 = .ok (.getfield 51, 3) := by decide +kernel
theorem dX7_adds_12 : decode cX7_adds 12 = .ok (.lmul, 1) := by decide +kernel
theorem dX7_adds_13 : decode cX7_adds 13 = .ok (.ladd, 1) := by decide +kernel
theorem dX7_adds_14 : decode cX7_adds 14 = .ok (.aload_n 0, 1) := by decide +kernel
theorem dX7_adds_15 : decode cX7_adds 15 = .ok (.getfield 51, 3) := by decide +kernel
theorem dX7_adds_18 : decode cX7_adds 18 = .ok (.lload_n 3, 1) := by decide +kernel
theorem dX7_adds_19 : decode cX7_adds 19 = .ok (.lmul, 1) := by decide +kernel
theorem dX7_adds_20 : decode cX7_adds 20 = .ok (.invokevirtual 64, 3) := by decide +kernel
theorem dX7_adds_23 : decode cX7_adds 23 = .ok (.return_, 1) := by decide +kernel
set_option maxRecDepth 20000 in
theorem ggX7_both_X7_isIn : GoodIn wsX7_both wsX7_isIn := goodIn_r _ [9] (by decide +kernel) (by decide +kernel)
set_option maxRecDepth 20000 in
theorem gX7_both_X7_isIn : GoodIn wsX7_both (va_wsS RX7 72 yX7_isIn wsX7_isIn) := goodIn_app (goodIn_of _ (by decide +kernel)) ggX7_both_X7_isIn
set_option maxRecDepth 20000 in
theorem ggX7_both_X7_laysSum : GoodIn wsX7_both wsX7_laysSum := goodIn_r _ [13, 14, 15, 16, 8, 17, 18, 19, 20, 21, 22, 23, 24, 25, 26, 27, 28, 29, 30, 31, 32, 33, 34, 4, 5, 43, 44, 45, 46, 47, 48, 49, 50, 51, 52, 53, 54, 55, 56, 57, 58, 59, 60, 61, 62, 63, 64, 65, 66] (by decide +kernel) (by decide +kernel)
set_option maxRecDepth 20000 in
theorem gX7_both_X7_laysSum : GoodIn wsX7_both (wsV RX7 87 RX7 yX7_laysSum wsX7_laysSum) := goodIn_app (goodIn_of _ (by decide +kernel)) ggX7_both_X7_laysSum
set_option maxRecDepth 20000 in
theorem ggX7_both_X7_adds : GoodIn wsX7_both wsX7_adds := goodIn_r _ [38, 4, 5, 31, 32, 33, 8, 34, 15, 16, 17, 18, 19, 20, 43, 44, 45, 46, 47, 48, 49, 50, 51, 52, 53, 54, 55, 56, 57, 58, 59, 60, 61, 62, 63, 64, 65, 66] (by decide +kernel) (by decide +kernel)
set_option maxRecDepth 20000 in
theorem gX7_both_X7_adds : GoodIn wsX7_both (wsV RX7 92 RX7 yX7_adds wsX7_adds) := goodIn_app (goodIn_of _ (by decide +kernel)) ggX7_both_X7_adds
set_option maxRecDepth 20000 in
theorem ggX7_both_X7_latest : GoodIn wsX7_both wsX7_latest := goodIn_r _ [42, 5, 4, 43, 44, 45, 46, 47, 48, 49, 50, 51, 52, 53, 54, 55, 56, 57, 58, 59, 60, 61, 62, 63, 64, 65, 66] (by decide +kernel) (by decide +kernel)
set_option maxRecDepth 20000 in
theorem gX7_both_X7_latest : GoodIn wsX7_both (wsV RX7 81 RX7 yX7_latest wsX7_latest) := goodIn_app (goodIn_of _ (by decide +kernel)) ggX7_both_X7_latest
theorem dX7_both_0 : decode cX7_both 0 = .ok (.aload_n 0, 1) := by decide +kernel
theorem dX7_both_1 : decode cX7_both 1 = .ok (.iconst 0, 1) := by decide +kernel
theorem dX7_both_2 : decode cX7_both 2 = .ok (.putfield 33, 3) := by decide +kernel
theorem dX7_both_5 : decode cX7_both 5 = .ok (.iload_n 1, 1) := by decide +kernel
theorem dX7_both_6 : decode cX7_both 6 = .ok (.i2l, 1) := by decide +kernel
theorem dX7_both_7 : decode cX7_both 7 = .ok (.lconst 1, 1) := by decide +kernel
theorem dX7_both_8 : decode cX7_both 8 = .ok (.ldc2_w 90, 3) := by decide +kernel
theorem dX7_both_11 : decode cX7_both 11 = .ok (.invokestatic 72, 3) := by decide +kernel
theorem dX7_both_14 : decode cX7_both 14 = .ok (.ifCond .eq 15, 3) := by decide +kernel
theorem dX7_both_17 : decode cX7_both 17 = .ok (.iload_n 2, 1) := by decide +kernel
theorem dX7_both_18 : decode cX7_both 18 = .ok (.i2l, 1) := by decide +kernel
theorem dX7_both_19 : decode cX7_both 19 = .ok (.lconst 1, 1) := by decide +kernel
theorem dX7_both_20 : decode cX7_both 20 = .ok (.ldc2_w 90, 3) := by decide +kernel
theorem dX7_both_23 : decode cX7_both 23 = .ok (.invokestatic 72, 3) := by decide +kernel
theorem dX7_both_26 : decode cX7_both 26 = .ok (.ifCond .ne 7, 3) := by decide +kernel
theorem dX7_both_29 : decode cX7_both 29 = .ok (.ldc2_w 76, 3) := by decide +kernel
theorem dX7_both_32 : decode cX7_both 32 = .ok (.lreturn, 1) := by decide +kernel
theorem dX7_both_33 : decode cX7_both 33 = .ok (.aload_n 0, 1) := by decide +kernel
theorem dX7_both_34 : decode cX7_both 34 = .ok (.iload_n 1, 1) := by decide +kernel
theorem dX7_both_35 : decode cX7_both 35 = .ok (.i2l, 1) := by decide +kernel
theorem dX7_both_36 : decode cX7_both 36 = .ok (.iload_n 2, 1) := by decide +kernel
theorem dX7_both_37 : decode cX7_both 37 = .ok (.i2l, 1) := by decide +kernel
theorem dX7_both_38 : decode cX7_both 38 = .ok (.invokevirtual 87, 3) := by decide +kernel
theorem dX7_both_41 : decode cX7_both 41 = .ok (.aload_n 0, 1) := by decide +kernel
theorem dX7_both_42 : decode cX7_both 42 = .ok (.getfield 48, 3) := by decide +kernel
theorem dX7_both_45 : decode cX7_both 45 = .ok (.lstore 4, 2) := by decide +kernel
theorem dX7_both_47 : decode cX7_both 47 = .ok (.aload_n 0, 1) := by decide +kernel
theorem dX7_both_48 : decode cX7_both 48 = .ok (.getfield 51, 3) := by decide +kernel
theorem dX7_both_51 : decode cX7_both 51 = .ok (.lstore 6, 2) := by decide +kernel
theorem dX7_both_53 : decode cX7_both 53 = .ok (.aload_n 0, 1) := by decide +kernel
theorem dX7_both_54 : decode cX7_both 54 = .ok (.iload_n 2, 1) := by decide +kernel
theorem dX7_both_55 : decode cX7_both 55 = .ok (.i2l, 1) := by decide +kernel
theorem dX7_both_56 : decode cX7_both 56 = .ok (.iload_n 1, 1) := by decide +kernel
theorem dX7_both_57 : decode cX7_both 57 = .ok (.i2l, 1) := by decide +kernel
theorem dX7_both_58 : decode cX7_both 58 = .ok (.invokevirtual 87, 3) := by decide +kernel
theorem dX7_both_61 : decode cX7_both 61 = .ok (.aload_n 0, 1) := by decide +kernel
theorem dX7_both_62 : decode cX7_both 62 = .ok (.lload 4, 2) := by decide +kernel
theorem dX7_both_64 : decode cX7_both 64 = .ok (.lload 6, 2) := by decide +kernel
theorem dX7_both_66 : decode cX7_both 66 = .ok (.invokevirtual 92, 3) := by decide +kernel
theorem dX7_both_69 : decode cX7_both 69 = .ok (.aload_n 0, 1) := by decide +kernel
theorem dX7_both_70 : decode cX7_both 70 = .ok (.iload_n 3, 1) := by decide +kernel
theorem dX7_both_71 : decode cX7_both 71 = .ok (.invokevirtual 81, 3) := by decide +kernel
theorem dX7_both_74 : decode cX7_both 74 = .ok (.lreturn, 1) := by decide +kernel
theorem dX7_inverse_0 : decode cX7_inverse 0 = .ok (.lconst 0, 1) := by decide +kernel
theorem dX7_inverse_1 : decode cX7_inverse 1 = .ok (.lstore 4, 2) := by decide +kernel
theorem dX7_inverse_3 : decode cX7_inverse 3 = .ok (.lload 4, 2) := by decide +kernel
theorem dX7_inverse_5 : decode cX7_inverse 5 = .ok (.lload_n 2, 1) := by decide +kernel
theorem dX7_inverse_6 : decode cX7_inverse 6 = .ok (.lcmp, 1) := by decide +kernel
theorem dX7_inverse_7 : decode cX7_inverse 7 = .ok (.ifCond .ge 28, 3) := by decide +kernel
theorem dX7_inverse_10 : decode cX7_inverse 10 = .ok (.lload_n 0, 1) := by decide +kernel
theorem dX7_inverse_11 : decode cX7_inverse 11 = .ok (.lload 4, 2) := by decide +kernel
theorem dX7_inverse_13 : decode cX7_inverse 13 = .ok (.lmul, 1) := by decide +kernel
theorem dX7_inverse_14 : decode cX7_inverse 14 = .ok (.lload_n 2, 1) := by decide +kernel
theorem dX7_inverse_15 : decode cX7_inverse 15 = .ok (.lrem, 1) := by decide +kernel
theorem dX7_inverse_16 : decode cX7_inverse 16 = .ok (.lconst 1, 1) := by decide +kernel
theorem dX7_inverse_17 : decode cX7_inverse 17 = .ok (.lload_n 2, 1) := by decide +kernel
theorem dX7_inverse_18 : decode cX7_inverse 18 = .ok (.lrem, 1) := by decide +kernel
theorem dX7_inverse_19 : decode cX7_inverse 19 = .ok (.lcmp, 1) := by decide +kernel
theorem dX7_inverse_20 : decode cX7_inverse 20 = .ok (.ifCond .ne 6, 3) := by decide +kernel
theorem dX7_inverse_23 : decode cX7_inverse 23 = .ok (.lload 4, 2) := by decide +kernel
theorem dX7_inverse_25 : decode cX7_inverse 25 = .ok (.lreturn, 1) := by decide +kernel
theorem dX7_inverse_26 : decode cX7_inverse 26 = .ok (.lload 4, 2) := by decide +kernel
theorem dX7_inverse_28 : decode cX7_inverse 28 = .ok (.lconst 1, 1) := by decide +kernel
theorem dX7_inverse_29 : decode cX7_inverse 29 = .ok (.ladd, 1) := by decide +kernel
theorem dX7_inverse_30 : decode cX7_inverse 30 = .ok (.lstore 4, 2) := by decide +kernel
theorem dX7_inverse_32 : decode cX7_inverse 32 = .ok (.goto (-29), 3) := by decide +kernel
theorem dX7_inverse_35 : decode cX7_inverse 35 = .ok (.lconst 0, 1) := by decide +kernel
theorem dX7_inverse_36 : decode cX7_inverse 36 = .ok (.lreturn, 1) := by decide +kernel
set_option maxRecDepth 20000 in
theorem ggX7_isThousand_X7_isIn : GoodIn wsX7_isThousand wsX7_isIn := goodIn_r _ [5] (by decide +kernel) (by decide +kernel)
set_option maxRecDepth 20000 in
theorem gX7_isThousand_X7_isIn : GoodIn wsX7_isThousand (va_wsS RX7 72 yX7_isIn wsX7_isIn) := goodIn_app (goodIn_of _ (by decide +kernel)) ggX7_isThousand_X7_isIn
theorem dX7_isThousand_0 : decode cX7_isThousand 0 = .ok (.iload_n 0, 1) := by decide +kernel
theorem dX7_isThousand_1 : decode cX7_isThousand 1 = .ok (.i2l, 1) := by decide +kernel
theorem dX7_isThousand_2 : decode cX7_isThousand 2 = .ok (.lconst 1, 1) := by decide +kernel
theorem dX7_isThousand_3 : decode cX7_isThousand 3 = .ok (.ldc2_w 95, 3) := by decide +kernel
theorem dX7_isThousand_6 : decode cX7_isThousand 6 = .ok (.invokestatic 72, 3) := by decide +kernel
theorem dX7_isThousand_9 : decode cX7_isThousand 9 = .ok (.ireturn, 1) := by decide +kernel
set_option maxRecDepth 20000 in
theorem ggX7_three_X7_isThousand : GoodIn wsX7_three wsX7_isThousand := goodIn_r _ [8, 9, 10, 11, 7, 12] (by decide +kernel) (by decide +kernel)
set_option maxRecDepth 20000 in
theorem gX7_three_X7_isThousand : GoodIn wsX7_three (va_wsS RX7 97 yX7_isThousand wsX7_isThousand) := goodIn_app (goodIn_of _ (by decide +kernel)) ggX7_three_X7_isThousand
set_option maxRecDepth 20000 in
theorem ggX7_three_X7_common : GoodIn wsX7_three wsX7_common := goodIn_r _ [15, 16, 17, 7, 18] (by decide +kernel) (by decide +kernel)
set_option maxRecDepth 20000 in
theorem gX7_three_X7_common : GoodIn wsX7_three (va_wsS RX7 45 yX7_common wsX7_common) := goodIn_app (goodIn_of _ (by decide +kernel)) ggX7_three_X7_common
set_option maxRecDepth 20000 in
theorem ggX7_three_X7_inverse : GoodIn wsX7_three wsX7_inverse := goodIn_r _ [21] (by decide +kernel) (by decide +kernel)
set_option maxRecDepth 20000 in
theorem gX7_three_X7_inverse : GoodIn wsX7_three (va_wsS RX7 101 yX7_inverse wsX7_inverse) := goodIn_app (goodIn_of _ (by decide +kernel)) ggX7_three_X7_inverse
set_option maxRecDepth 20000 in
theorem ggX7_three_X7_laysSum : GoodIn wsX7_three wsX7_laysSum := goodIn_r _ [25, 26, 13, 14, 7, 15, 16, 17, 18, 27, 28, 29, 30, 31, 32, 33, 34, 35, 36, 37, 38, 39, 40, 3, 4, 49, 50, 51, 52, 53, 54, 55, 56, 57, 58, 59, 60, 61, 62, 63, 64, 65, 66, 67, 68, 69, 70, 71, 72] (by decide +kernel) (by decide +kernel)
set_option maxRecDepth 20000 in
theorem gX7_three_X7_laysSum : GoodIn wsX7_three (wsV RX7 87 RX7 yX7_laysSum wsX7_laysSum) := goodIn_app (goodIn_of _ (by decide +kernel)) ggX7_three_X7_laysSum
set_option maxRecDepth 20000 in
theorem ggX7_three_X7_adds : GoodIn wsX7_three wsX7_adds := goodIn_r _ [44, 3, 4, 37, 38, 39, 7, 40, 13, 14, 15, 16, 17, 18, 49, 50, 51, 52, 53, 54, 55, 56, 57, 58, 59, 60, 61, 62, 63, 64, 65, 66, 67, 68, 69, 70, 71, 72] (by decide +kernel) (by decide +kernel)
set_option maxRecDepth 20000 in
theorem gX7_three_X7_adds : GoodIn wsX7_three (wsV RX7 92 RX7 yX7_adds wsX7_adds) := goodIn_app (goodIn_of _ (by decide +kernel)) ggX7_three_X7_adds
set_option maxRecDepth 20000 in
theorem ggX7_three_X7_latest : GoodIn wsX7_three wsX7_latest := goodIn_r _ [48, 4, 3, 49, 50, 51, 52, 53, 54, 55, 56, 57, 58, 59, 60, 61, 62, 63, 64, 65, 66, 67, 68, 69, 70, 71, 72] (by decide +kernel) (by decide +kernel)
set_option maxRecDepth 20000 in
theorem gX7_three_X7_latest : GoodIn wsX7_three (wsV RX7 81 RX7 yX7_latest wsX7_latest) := goodIn_app (goodIn_of _ (by decide +kernel)) ggX7_three_X7_latest
theorem dX7_three_0 : decode cX7_three 0 = .ok (.aload_n 0, 1) := by decide +kernel
theorem dX7_three_1 : decode cX7_three 1 = .ok (.iconst 0, 1) := by decide +kernel
theorem dX7_three_2 : decode cX7_three 2 = .ok (.putfield 33, 3) := by decide +kernel
theorem dX7_three_5 : decode cX7_three 5 = .ok (.iload_n 1, 1) := by decide +kernel
theorem dX7_three_6 : decode cX7_three 6 = .ok (.invokestatic 97, 3) := by decide +kernel
theorem dX7_three_9 : decode cX7_three 9 = .ok (.ifCond .eq 53, 3) := by decide +kernel
theorem dX7_three_12 : decode cX7_three 12 = .ok (.iload_n 2, 1) := by decide +kernel
theorem dX7_three_13 : decode cX7_three 13 = .ok (.invokestatic 97, 3) := by decide +kernel
theorem dX7_three_16 : decode cX7_three 16 = .ok (.ifCond .eq 46, 3) := by decide +kernel
theorem dX7_three_19 : decode cX7_three 19 = .ok (.iload_n 3, 1) := by decide +kernel
theorem dX7_three_20 : decode cX7_three 20 = .ok (.invokestatic 97, 3) := by decide +kernel
theorem dX7_three_23 : decode cX7_three 23 = .ok (.ifCond .eq 39, 3) := by decide +kernel
theorem dX7_three_26 : decode cX7_three 26 = .ok (.iload_n 1, 1) := by decide +kernel
theorem dX7_three_27 : decode cX7_three 27 = .ok (.i2l, 1) := by decide +kernel
theorem dX7_three_28 : decode cX7_three 28 = .ok (.iload_n 2, 1) := by decide +kernel
theorem dX7_three_29 : decode cX7_three 29 = .ok (.i2l, 1) := by decide +kernel
theorem dX7_three_30 : decode cX7_three 30 = .ok (.invokestatic 45, 3) := by decide +kernel
theorem dX7_three_33 : decode cX7_three 33 = .ok (.lconst 1, 1) := by decide +kernel
theorem dX7_three_34 : decode cX7_three 34 = .ok (.lcmp, 1) := by decide +kernel
theorem dX7_three_35 : decode cX7_three 35 = .ok (.ifCond .gt 27, 3) := by decide +kernel
theorem dX7_three_38 : decode cX7_three 38 = .ok (.iload_n 2, 1) := by decide +kernel
theorem dX7_three_39 : decode cX7_three 39 = .ok (.i2l, 1) := by decide +kernel
theorem dX7_three_40 : decode cX7_three 40 = .ok (.iload_n 3, 1) := by decide +kernel
theorem dX7_three_41 : decode cX7_three 41 = .ok (.i2l, 1) := by decide +kernel
theorem dX7_three_42 : decode cX7_three 42 = .ok (.invokestatic 45, 3) := by decide +kernel
theorem dX7_three_45 : decode cX7_three 45 = .ok (.lconst 1, 1) := by decide +kernel
theorem dX7_three_46 : decode cX7_three 46 = .ok (.lcmp, 1) := by decide +kernel
theorem dX7_three_47 : decode cX7_three 47 = .ok (.ifCond .gt 15, 3) := by decide +kernel
theorem dX7_three_50 : decode cX7_three 50 = .ok (.iload_n 3, 1) := by decide +kernel
theorem dX7_three_51 : decode cX7_three 51 = .ok (.i2l, 1) := by decide +kernel
theorem dX7_three_52 : decode cX7_three 52 = .ok (.iload_n 1, 1) := by decide +kernel
theorem dX7_three_53 : decode cX7_three 53 = .ok (.i2l, 1) := by decide +kernel
theorem dX7_three_54 : decode cX7_three 54 = .ok (.invokestatic 45, 3) := by decide +kernel
theorem dX7_three_57 : decode cX7_three 57 = .ok (.lconst 1, 1) := by decide +kernel
theorem dX7_three_58 : decode cX7_three 58 = .ok (.lcmp, 1) := by decide +kernel
theorem dX7_three_59 : decode cX7_three 59 = .ok (.ifCond .le 7, 3) := by decide +kernel
theorem dX7_three_62 : decode cX7_three 62 = .ok (.ldc2_w 76, 3) := by decide +kernel
theorem dX7_three_65 : decode cX7_three 65 = .ok (.lreturn, 1) := by decide +kernel
theorem dX7_three_66 : decode cX7_three 66 = .ok (.aload_n 0, 1) := by decide +kernel
theorem dX7_three_67 : decode cX7_three 67 = .ok (.iload_n 1, 1) := by decide +kernel
theorem dX7_three_68 : decode cX7_three 68 = .ok (.i2l, 1) := by decide +kernel
theorem dX7_three_69 : decode cX7_three 69 = .ok (.iload_n 2, 1) := by decide +kernel
theorem dX7_three_70 : decode cX7_three 70 = .ok (.i2l, 1) := by decide +kernel
theorem dX7_three_71 : decode cX7_three 71 = .ok (.iload_n 3, 1) := by decide +kernel
theorem dX7_three_72 : decode cX7_three 72 = .ok (.i2l, 1) := by decide +kernel
theorem dX7_three_73 : decode cX7_three 73 = .ok (.invokestatic 101, 3) := by decide +kernel
theorem dX7_three_76 : decode cX7_three 76 = .ok (.lmul, 1) := by decide +kernel
theorem dX7_three_77 : decode cX7_three 77 = .ok (.iload_n 3, 1) := by decide +kernel
theorem dX7_three_78 : decode cX7_three 78 = .ok (.i2l, 1) := by decide +kernel
theorem dX7_three_79 : decode cX7_three 79 = .ok (.invokevirtual 87, 3) := by decide +kernel
theorem dX7_three_82 : decode cX7_three 82 = .ok (.aload_n 0, 1) := by decide +kernel
theorem dX7_three_83 : decode cX7_three 83 = .ok (.getfield 48, 3) := by decide +kernel
theorem dX7_three_86 : decode cX7_three 86 = .ok (.lstore 5, 2) := by decide +kernel
theorem dX7_three_88 : decode cX7_three 88 = .ok (.aload_n 0, 1) := by decide +kernel
theorem dX7_three_89 : decode cX7_three 89 = .ok (.getfield 51, 3) := by decide +kernel
theorem dX7_three_92 : decode cX7_three 92 = .ok (.lstore 7, 2) := by decide +kernel
theorem dX7_three_94 : decode cX7_three 94 = .ok (.aload_n 0, 1) := by decide +kernel
theorem dX7_three_95 : decode cX7_three 95 = .ok (.iload_n 2, 1) := by decide +kernel
theorem dX7_three_96 : decode cX7_three 96 = .ok (.i2l, 1) := by decide +kernel
theorem dX7_three_97 : decode cX7_three 97 = .ok (.iload_n 3, 1) := by decide +kernel
theorem dX7_three_98 : decode cX7_three 98 = .ok (.i2l, 1) := by decide +kernel
theorem dX7_three_99 : decode cX7_three 99 = .ok (.iload_n 1, 1) := by decide +kernel
theorem dX7_three_100 : decode cX7_three 100 = .ok (.i2l, 1) := by decide +kernel
theorem dX7_three_101 : decode cX7_three 101 = .ok (.invokestatic 101, 3) := by decide +kernel
theorem dX7_three_104 : decode cX7_three 104 = .ok (.lmul, 1) := by decide +kernel
theorem dX7_three_105 : decode cX7_three 105 = .ok (.iload_n 1, 1) := by decide +kernel
theorem dX7_three_106 : decode cX7_three 106 = .ok (.i2l, 1) := by decide +kernel
theorem dX7_three_107 : decode cX7_three 107 = .ok (.invokevirtual 87, 3) := by decide +kernel
theorem dX7_three_110 : decode cX7_three 110 = .ok (.aload_n 0, 1) := by decide +kernel
theorem dX7_three_111 : decode cX7_three 111 = .ok (.lload 5, 2) := by decide +kernel
theorem dX7_three_113 : decode cX7_three 113 = .ok (.lload 7, 2) := by decide +kernel
theorem dX7_three_115 : decode cX7_three 115 = .ok (.invokevirtual 92, 3) := by decide +kernel
theorem dX7_three_118 : decode cX7_three 118 = .ok (.aload_n 0, 1) := by decide +kernel
theorem dX7_three_119 : decode cX7_three 119 = .ok (.getfield 48, 3) := by decide +kernel
theorem dX7_three_122 : decode cX7_three 122 = .ok (.lstore 5, 2) := by decide +kernel
theorem dX7_three_124 : decode cX7_three 124 = .ok (.aload_n 0, 1) := by decide +kernel
theorem dX7_three_125 : decode cX7_three 125 = .ok (.getfield 51, 3) := by decide +kernel
theorem dX7_three_128 : decode cX7_three 128 = .ok (.lstore 7, 2) := by decide +kernel
theorem dX7_three_130 : decode cX7_three 130 = .ok (.aload_n 0, 1) := by decide +kernel
theorem dX7_three_131 : decode cX7_three 131 = .ok (.iload_n 3, 1) := by decide +kernel
theorem dX7_three_132 : decode cX7_three 132 = .ok (.i2l, 1) := by decide +kernel
theorem dX7_three_133 : decode cX7_three 133 = .ok (.iload_n 1, 1) := by decide +kernel
theorem dX7_three_134 : decode cX7_three 134 = .ok (.i2l, 1) := by decide +kernel
theorem dX7_three_135 : decode cX7_three 135 = .ok (.iload_n 2, 1) := by decide +kernel
theorem dX7_three_136 : decode cX7_three 136 = .ok (.i2l, 1) := by decide +kernel
theorem dX7_three_137 : decode cX7_three 137 = .ok (.invokestatic 101, 3) := by decide +kernel
theorem dX7_three_140 : decode cX7_three 140 = .ok (.lmul, 1) := by decide +kernel
theorem dX7_three_141 : decode cX7_three 141 = .ok (.iload_n 2, 1) := by decide +kernel
theorem dX7_three_142 : decode cX7_three 142 = .ok (.i2l, 1) := by decide +kernel
theorem dX7_three_143 : decode cX7_three 143 = .ok (.invokevirtual 87, 3) := by decide +kernel
theorem dX7_three_146 : decode cX7_three 146 = .ok (.aload_n 0, 1) := by decide +kernel
theorem dX7_three_147 : decode cX7_three 147 = .ok (.lload 5, 2) := by decide +kernel
theorem dX7_three_149 : decode cX7_three 149 = .ok (.lload 7, 2) := by decide +kernel
theorem dX7_three_151 : decode cX7_three 151 = .ok (.invokevirtual 92, 3) := by decide +kernel
theorem dX7_three_154 : decode cX7_three 154 = .ok (.aload_n 0, 1) := by decide +kernel
theorem dX7_three_155 : decode cX7_three 155 = .ok (.iload 4, 2) := by decide +kernel
theorem dX7_three_157 : decode cX7_three 157 = .ok (.invokevirtual 81, 3) := by decide +kernel
theorem dX7_three_160 : decode cX7_three 160 = .ok (.lreturn, 1) := by decide +kernel
set_option maxRecDepth 20000 in
theorem ggX7_above_X7_isThousand : GoodIn wsX7_above wsX7_isThousand := goodIn_r _ [8, 9, 10, 11, 7, 12] (by decide +kernel) (by decide +kernel)
set_option maxRecDepth 20000 in
theorem gX7_above_X7_isThousand : GoodIn wsX7_above (va_wsS RX7 97 yX7_isThousand wsX7_isThousand) := goodIn_app (goodIn_of _ (by decide +kernel)) ggX7_above_X7_isThousand
set_option maxRecDepth 20000 in
theorem ggX7_above_X7_laysSum : GoodIn wsX7_above wsX7_laysSum := goodIn_r _ [16, 17, 18, 19, 7, 20, 21, 22, 23, 24, 25, 26, 27, 28, 29, 30, 31, 32, 33, 34, 35, 36, 37, 3, 4, 38, 39, 40, 41, 42, 43, 44, 45, 46, 47, 48, 49, 50, 51, 52, 53, 54, 55, 56, 57, 58, 59, 60, 61] (by decide +kernel) (by decide +kernel)
set_option maxRecDepth 20000 in
theorem gX7_above_X7_laysSum : GoodIn wsX7_above (wsV RX7 87 RX7 yX7_laysSum wsX7_laysSum) := goodIn_app (goodIn_of _ (by decide +kernel)) ggX7_above_X7_laysSum
theorem dX7_above_0 : decode cX7_above 0 = .ok (.aload_n 0, 1) := by decide +kernel
theorem dX7_above_1 : decode cX7_above 1 = .ok (.iconst 0, 1) := by decide +kernel
theorem dX7_above_2 : decode cX7_above 2 = .ok (.putfield 33, 3) := by decide +kernel
theorem dX7_above_5 : decode cX7_above 5 = .ok (.iload_n 2, 1) := by decide +kernel
theorem dX7_above_6 : decode cX7_above 6 = .ok (.invokestatic 97, 3) := by decide +kernel
theorem dX7_above_9 : decode cX7_above 9 = .ok (.ifCond .eq 10, 3) := by decide +kernel
theorem dX7_above_12 : decode cX7_above 12 = .ok (.iload_n 3, 1) := by decide +kernel
theorem dX7_above_13 : decode cX7_above 13 = .ok (.invokestatic 97, 3) := by decide +kernel
theorem dX7_above_16 : decode cX7_above 16 = .ok (.ifCond .ne 7, 3) := by decide +kernel
theorem dX7_above_19 : decode cX7_above 19 = .ok (.ldc2_w 76, 3) := by decide +kernel
theorem dX7_above_22 : decode cX7_above 22 = .ok (.lreturn, 1) := by decide +kernel
theorem dX7_above_23 : decode cX7_above 23 = .ok (.aload_n 0, 1) := by decide +kernel
theorem dX7_above_24 : decode cX7_above 24 = .ok (.iload_n 1, 1) := by decide +kernel
theorem dX7_above_25 : decode cX7_above 25 = .ok (.i2l, 1) := by decide +kernel
theorem dX7_above_26 : decode cX7_above 26 = .ok (.iload_n 2, 1) := by decide +kernel
theorem dX7_above_27 : decode cX7_above 27 = .ok (.i2l, 1) := by decide +kernel
theorem dX7_above_28 : decode cX7_above 28 = .ok (.invokevirtual 87, 3) := by decide +kernel
theorem dX7_above_31 : decode cX7_above 31 = .ok (.aload_n 0, 1) := by decide +kernel
theorem dX7_above_32 : decode cX7_above 32 = .ok (.getfield 48, 3) := by decide +kernel
theorem dX7_above_35 : decode cX7_above 35 = .ok (.lstore 4, 2) := by decide +kernel
theorem dX7_above_37 : decode cX7_above 37 = .ok (.aload_n 0, 1) := by decide +kernel
theorem dX7_above_38 : decode cX7_above 38 = .ok (.getfield 51, 3) := by decide +kernel
theorem dX7_above_41 : decode cX7_above 41 = .ok (.lstore 6, 2) := by decide +kernel
theorem dX7_above_43 : decode cX7_above 43 = .ok (.lconst 0, 1) := by decide +kernel
theorem dX7_above_44 : decode cX7_above 44 = .ok (.lstore 8, 2) := by decide +kernel
theorem dX7_above_46 : decode cX7_above 46 = .ok (.iconst 1, 1) := by decide +kernel
theorem dX7_above_47 : decode cX7_above 47 = .ok (.istore 10, 2) := by decide +kernel
theorem dX7_above_49 : decode cX7_above 49 = .ok (.iload 10, 2) := by decide +kernel
theorem dX7_above_51 : decode cX7_above 51 = .ok (.iload_n 3, 1) := by decide +kernel
theorem dX7_above_52 : decode cX7_above 52 = .ok (.if_icmp .gt 46, 3) := by decide +kernel
theorem dX7_above_55 : decode cX7_above 55 = .ok (.aload_n 0, 1) := by decide +kernel
theorem dX7_above_56 : decode cX7_above 56 = .ok (.iload_n 1, 1) := by decide +kernel
theorem dX7_above_57 : decode cX7_above 57 = .ok (.i2l, 1) := by decide +kernel
theorem dX7_above_58 : decode cX7_above 58 = .ok (.iload 10, 2) := by decide +kernel
theorem dX7_above_60 : decode cX7_above 60 = .ok (.i2l, 1) := by decide +kernel
theorem dX7_above_61 : decode cX7_above 61 = .ok (.invokevirtual 87, 3) := by decide +kernel
theorem dX7_above_64 : decode cX7_above 64 = .ok (.lload 8, 2) := by decide +kernel
theorem dX7_above_66 : decode cX7_above 66 = .ok (.aload_n 0, 1) := by decide +kernel
theorem dX7_above_67 : decode cX7_above 67 = .ok (.getfield 48, 3) := by decide +kernel
theorem dX7_above_70 : decode cX7_above 70 = .ok (.lload 6, 2) := by decide +kernel
theorem dX7_above_72 : decode cX7_above 72 = .ok (.lmul, 1) := by decide +kernel
theorem dX7_above_73 : decode cX7_above 73 = .ok (.lload 4, 2) := by decide +kernel
theorem dX7_above_75 : decode cX7_above 75 = .ok (.aload_n 0, 1) := by decide +kernel
theorem dX7_above_76 : decode cX7_above 76 = .ok (.getfield 51, 3) := by decide +kernel
theorem dX7_above_79 : decode cX7_above 79 = .ok (.lmul, 1) := by decide +kernel
theorem dX7_above_80 : decode cX7_above 80 = .ok (.lcmp, 1) := by decide +kernel
theorem dX7_above_81 : decode cX7_above 81 = .ok (.ifCond .le 7, 3) := by decide +kernel
theorem dX7_above_84 : decode cX7_above 84 = .ok (.lconst 1, 1) := by decide +kernel
theorem dX7_above_85 : decode cX7_above 85 = .ok (.goto 4, 3) := by decide +kernel
theorem dX7_above_88 : decode cX7_above 88 = .ok (.lconst 0, 1) := by decide +kernel
theorem dX7_above_89 : decode cX7_above 89 = .ok (.ladd, 1) := by decide +kernel
theorem dX7_above_90 : decode cX7_above 90 = .ok (.lstore 8, 2) := by decide +kernel
theorem dX7_above_92 : decode cX7_above 92 = .ok (.iinc 10 1, 3) := by decide +kernel
theorem dX7_above_95 : decode cX7_above 95 = .ok (.goto (-46), 3) := by decide +kernel
theorem dX7_above_98 : decode cX7_above 98 = .ok (.lload 8, 2) := by decide +kernel
theorem dX7_above_100 : decode cX7_above 100 = .ok (.lreturn, 1) := by decide +kernel
set_option maxRecDepth 20000 in
theorem ggX7_chained_X7_rest : GoodIn wsX7_chained wsX7_rest := goodIn_r _ [4, 5, 6, 3, 7] (by decide +kernel) (by decide +kernel)
set_option maxRecDepth 20000 in
theorem gX7_chained_X7_rest : GoodIn wsX7_chained (va_wsS RX7 54 yX7_rest wsX7_rest) := goodIn_app (goodIn_of _ (by decide +kernel)) ggX7_chained_X7_rest
theorem dX7_chained_0 : decode cX7_chained 0 = .ok (.lload_n 0, 1) := by decide +kernel
theorem dX7_chained_1 : decode cX7_chained 1 = .ok (.lload_n 2, 1) := by decide +kernel
theorem dX7_chained_2 : decode cX7_chained 2 = .ok (.invokestatic 54, 3) := by decide +kernel
theorem dX7_chained_5 : decode cX7_chained 5 = .ok (.lstore 6, 2) := by decide +kernel
theorem dX7_chained_7 : decode cX7_chained 7 = .ok (.lload_n 2, 1) := by decide +kernel
theorem dX7_chained_8 : decode cX7_chained 8 = .ok (.lstore 8, 2) := by decide +kernel
theorem dX7_chained_10 : decode cX7_chained 10 = .ok (.iconst 0, 1) := by decide +kernel
theorem dX7_chained_11 : decode cX7_chained 11 = .ok (.istore 10, 2) := by decide +kernel
theorem dX7_chained_13 : decode cX7_chained 13 = .ok (.lload 6, 2) := by decide +kernel
theorem dX7_chained_15 : decode cX7_chained 15 = .ok (.lconst 0, 1) := by decide +kernel
theorem dX7_chained_16 : decode cX7_chained 16 = .ok (.lcmp, 1) := by decide +kernel
theorem dX7_chained_17 : decode cX7_chained 17 = .ok (.ifCond .eq 82, 3) := by decide +kernel
theorem dX7_chained_20 : decode cX7_chained 20 = .ok (.lload_n 2, 1) := by decide +kernel
theorem dX7_chained_21 : decode cX7_chained 21 = .ok (.lconst 1, 1) := by decide +kernel
theorem dX7_chained_22 : decode cX7_chained 22 = .ok (.lcmp, 1) := by decide +kernel
theorem dX7_chained_23 : decode cX7_chained 23 = .ok (.ifCond .le 76, 3) := by decide +kernel
theorem dX7_chained_26 : decode cX7_chained 26 = .ok (.iload 5, 2) := by decide +kernel
theorem dX7_chained_28 : decode cX7_chained 28 = .ok (.ifCond .eq 16, 3) := by decide +kernel
theorem dX7_chained_31 : decode cX7_chained 31 = .ok (.lload 8, 2) := by decide +kernel
theorem dX7_chained_33 : decode cX7_chained 33 = .ok (.lload 6, 2) := by decide +kernel
theorem dX7_chained_35 : decode cX7_chained 35 = .ok (.ladd, 1) := by decide +kernel
theorem dX7_chained_36 : decode cX7_chained 36 = .ok (.lconst 1, 1) := by decide +kernel
theorem dX7_chained_37 : decode cX7_chained 37 = .ok (.lsub, 1) := by decide +kernel
theorem dX7_chained_38 : decode cX7_chained 38 = .ok (.lload 6, 2) := by decide +kernel
theorem dX7_chained_40 : decode cX7_chained 40 = .ok (.ldiv, 1) := by decide +kernel
theorem dX7_chained_41 : decode cX7_chained 41 = .ok (.goto 8, 3) := by decide +kernel
theorem dX7_chained_44 : decode cX7_chained 44 = .ok (.lload 8, 2) := by decide +kernel
theorem dX7_chained_46 : decode cX7_chained 46 = .ok (.lload 6, 2) := by decide +kernel
theorem dX7_chained_48 : decode cX7_chained 48 = .ok (.ldiv, 1) := by decide +kernel
theorem dX7_chained_49 : decode cX7_chained 49 = .ok (.lstore 11, 2) := by decide +kernel
theorem dX7_chained_51 : decode cX7_chained 51 = .ok (.iload 10, 2) := by decide +kernel
theorem dX7_chained_53 : decode cX7_chained 53 = .ok (.iload 4, 2) := by decide +kernel
theorem dX7_chained_55 : decode cX7_chained 55 = .ok (.if_icmp .ne 7, 3) := by decide +kernel
theorem dX7_chained_58 : decode cX7_chained 58 = .ok (.lload 11, 2) := by decide +kernel
theorem dX7_chained_60 : decode cX7_chained 60 = .ok (.l2i, 1) := by decide +kernel
theorem dX7_chained_61 : decode cX7_chained 61 = .ok (.ireturn, 1) := by decide +kernel
theorem dX7_chained_62 : decode cX7_chained 62 = .ok (.iinc 10 1, 3) := by decide +kernel
theorem dX7_chained_65 : decode cX7_chained 65 = .ok (.iload 5, 2) := by decide +kernel
theorem dX7_chained_67 : decode cX7_chained 67 = .ok (.ifCond .eq 14, 3) := by decide +kernel
theorem dX7_chained_70 : decode cX7_chained 70 = .ok (.lload 11, 2) := by decide +kernel
theorem dX7_chained_72 : decode cX7_chained 72 = .ok (.lload 6, 2) := by decide +kernel
theorem dX7_chained_74 : decode cX7_chained 74 = .ok (.lmul, 1) := by decide +kernel
theorem dX7_chained_75 : decode cX7_chained 75 = .ok (.lload 8, 2) := by decide +kernel
theorem dX7_chained_77 : decode cX7_chained 77 = .ok (.lsub, 1) := by decide +kernel
theorem dX7_chained_78 : decode cX7_chained 78 = .ok (.goto 8, 3) := by decide +kernel
theorem dX7_chained_81 : decode cX7_chained 81 = .ok (.lload 8, 2) := by decide +kernel
theorem dX7_chained_83 : decode cX7_chained 83 = .ok (.lload 6, 2) := by decide +kernel
theorem dX7_chained_85 : decode cX7_chained 85 = .ok (.lrem, 1) := by decide +kernel
theorem dX7_chained_86 : decode cX7_chained 86 = .ok (.lstore 13, 2) := by decide +kernel
theorem dX7_chained_88 : decode cX7_chained 88 = .ok (.lload 6, 2) := by decide +kernel
theorem dX7_chained_90 : decode cX7_chained 90 = .ok (.lstore 8, 2) := by decide +kernel
theorem dX7_chained_92 : decode cX7_chained 92 = .ok (.lload 13, 2) := by decide +kernel
theorem dX7_chained_94 : decode cX7_chained 94 = .ok (.lstore 6, 2) := by decide +kernel
theorem dX7_chained_96 : decode cX7_chained 96 = .ok (.goto (-83), 3) := by decide +kernel
theorem dX7_chained_99 : decode cX7_chained 99 = .ok (.iload 4, 2) := by decide +kernel
theorem dX7_chained_101 : decode cX7_chained 101 = .ok (.iconst (-1), 1) := by decide +kernel
theorem dX7_chained_102 : decode cX7_chained 102 = .ok (.if_icmp .ne 8, 3) := by decide +kernel
theorem dX7_chained_105 : decode cX7_chained 105 = .ok (.iload 10, 2) := by decide +kernel
theorem dX7_chained_107 : decode cX7_chained 107 = .ok (.goto 4, 3) := by decide +kernel
theorem dX7_chained_110 : decode cX7_chained 110 = .ok (.iconst (-1), 1) := by decide +kernel
theorem dX7_chained_111 : decode cX7_chained 111 = .ok (.ireturn, 1) := by decide +kernel
set_option maxRecDepth 20000 in
theorem ggX7_chain_X7_isIn : GoodIn wsX7_chain wsX7_isIn := goodIn_r _ [6] (by decide +kernel) (by decide +kernel)
set_option maxRecDepth 20000 in
theorem gX7_chain_X7_isIn : GoodIn wsX7_chain (va_wsS RX7 72 yX7_isIn wsX7_isIn) := goodIn_app (goodIn_of _ (by decide +kernel)) ggX7_chain_X7_isIn
set_option maxRecDepth 20000 in
theorem ggX7_chain_X7_common : GoodIn wsX7_chain wsX7_common := goodIn_r _ [9, 10, 11, 5, 12] (by decide +kernel) (by decide +kernel)
set_option maxRecDepth 20000 in
theorem gX7_chain_X7_common : GoodIn wsX7_chain (va_wsS RX7 45 yX7_common wsX7_common) := goodIn_app (goodIn_of _ (by decide +kernel)) ggX7_chain_X7_common
set_option maxRecDepth 20000 in
theorem ggX7_chain_X7_chained : GoodIn wsX7_chain wsX7_chained := goodIn_r _ [15, 16, 17, 5, 18, 19, 20, 21] (by decide +kernel) (by decide +kernel)
set_option maxRecDepth 20000 in
theorem gX7_chain_X7_chained : GoodIn wsX7_chain (va_wsS RX7 104 yX7_chained wsX7_chained) := goodIn_app (goodIn_of _ (by decide +kernel)) ggX7_chain_X7_chained
theorem dX7_chain_0 : decode cX7_chain 0 = .ok (.aload_n 0, 1) := by decide +kernel
theorem dX7_chain_1 : decode cX7_chain 1 = .ok (.iconst 0, 1) := by decide +kernel
theorem dX7_chain_2 : decode cX7_chain 2 = .ok (.putfield 33, 3) := by decide +kernel
theorem dX7_chain_5 : decode cX7_chain 5 = .ok (.iload_n 2, 1) := by decide +kernel
theorem dX7_chain_6 : decode cX7_chain 6 = .ok (.i2l, 1) := by decide +kernel
theorem dX7_chain_7 : decode cX7_chain 7 = .ok (.lconst 1, 1) := by decide +kernel
theorem dX7_chain_8 : decode cX7_chain 8 = .ok (.ldc2_w 70, 3) := by decide +kernel
theorem dX7_chain_11 : decode cX7_chain 11 = .ok (.invokestatic 72, 3) := by decide +kernel
theorem dX7_chain_14 : decode cX7_chain 14 = .ok (.ifCond .eq 32, 3) := by decide +kernel
theorem dX7_chain_17 : decode cX7_chain 17 = .ok (.iload_n 1, 1) := by decide +kernel
theorem dX7_chain_18 : decode cX7_chain 18 = .ok (.i2l, 1) := by decide +kernel
theorem dX7_chain_19 : decode cX7_chain 19 = .ok (.iload_n 2, 1) := by decide +kernel
theorem dX7_chain_20 : decode cX7_chain 20 = .ok (.i2l, 1) := by decide +kernel
theorem dX7_chain_21 : decode cX7_chain 21 = .ok (.invokestatic 45, 3) := by decide +kernel
theorem dX7_chain_24 : decode cX7_chain 24 = .ok (.lconst 1, 1) := by decide +kernel
theorem dX7_chain_25 : decode cX7_chain 25 = .ok (.lcmp, 1) := by decide +kernel
theorem dX7_chain_26 : decode cX7_chain 26 = .ok (.ifCond .ne 20, 3) := by decide +kernel
theorem dX7_chain_29 : decode cX7_chain 29 = .ok (.iload_n 3, 1) := by decide +kernel
theorem dX7_chain_30 : decode cX7_chain 30 = .ok (.iconst (-1), 1) := by decide +kernel
theorem dX7_chain_31 : decode cX7_chain 31 = .ok (.if_icmp .lt 15, 3) := by decide +kernel
theorem dX7_chain_34 : decode cX7_chain 34 = .ok (.iload_n 1, 1) := by decide +kernel
theorem dX7_chain_35 : decode cX7_chain 35 = .ok (.i2l, 1) := by decide +kernel
theorem dX7_chain_36 : decode cX7_chain 36 = .ok (.iload_n 2, 1) := by decide +kernel
theorem dX7_chain_37 : decode cX7_chain 37 = .ok (.i2l, 1) := by decide +kernel
theorem dX7_chain_38 : decode cX7_chain 38 = .ok (.iload_n 3, 1) := by decide +kernel
theorem dX7_chain_39 : decode cX7_chain 39 = .ok (.iconst 0, 1) := by decide +kernel
theorem dX7_chain_40 : decode cX7_chain 40 = .ok (.invokestatic 104, 3) := by decide +kernel
theorem dX7_chain_43 : decode cX7_chain 43 = .ok (.goto 4, 3) := by decide +kernel
theorem dX7_chain_46 : decode cX7_chain 46 = .ok (.iconst (-1), 1) := by decide +kernel
theorem dX7_chain_47 : decode cX7_chain 47 = .ok (.ireturn, 1) := by decide +kernel
set_option maxRecDepth 20000 in
theorem ggX7_minus_X7_isIn : GoodIn wsX7_minus wsX7_isIn := goodIn_r _ [6] (by decide +kernel) (by decide +kernel)
set_option maxRecDepth 20000 in
theorem gX7_minus_X7_isIn : GoodIn wsX7_minus (va_wsS RX7 72 yX7_isIn wsX7_isIn) := goodIn_app (goodIn_of _ (by decide +kernel)) ggX7_minus_X7_isIn
set_option maxRecDepth 20000 in
theorem ggX7_minus_X7_common : GoodIn wsX7_minus wsX7_common := goodIn_r _ [9, 10, 11, 5, 12] (by decide +kernel) (by decide +kernel)
set_option maxRecDepth 20000 in
theorem gX7_minus_X7_common : GoodIn wsX7_minus (va_wsS RX7 45 yX7_common wsX7_common) := goodIn_app (goodIn_of _ (by decide +kernel)) ggX7_minus_X7_common
set_option maxRecDepth 20000 in
theorem ggX7_minus_X7_chained : GoodIn wsX7_minus wsX7_chained := goodIn_r _ [15, 16, 17, 5, 18, 19, 20, 21] (by decide +kernel) (by decide +kernel)
set_option maxRecDepth 20000 in
theorem gX7_minus_X7_chained : GoodIn wsX7_minus (va_wsS RX7 104 yX7_chained wsX7_chained) := goodIn_app (goodIn_of _ (by decide +kernel)) ggX7_minus_X7_chained
theorem dX7_minus_0 : decode cX7_minus 0 = .ok (.aload_n 0, 1) := by decide +kernel
theorem dX7_minus_1 : decode cX7_minus 1 = .ok (.iconst 0, 1) := by decide +kernel
theorem dX7_minus_2 : decode cX7_minus 2 = .ok (.putfield 33, 3) := by decide +kernel
theorem dX7_minus_5 : decode cX7_minus 5 = .ok (.iload_n 2, 1) := by decide +kernel
theorem dX7_minus_6 : decode cX7_minus 6 = .ok (.i2l, 1) := by decide +kernel
theorem dX7_minus_7 : decode cX7_minus 7 = .ok (.lconst 1, 1) := by decide +kernel
theorem dX7_minus_8 : decode cX7_minus 8 = .ok (.ldc2_w 108, 3) := by decide +kernel
theorem dX7_minus_11 : decode cX7_minus 11 = .ok (.invokestatic 72, 3) := by decide +kernel
theorem dX7_minus_14 : decode cX7_minus 14 = .ok (.ifCond .eq 32, 3) := by decide +kernel
theorem dX7_minus_17 : decode cX7_minus 17 = .ok (.iload_n 1, 1) := by decide +kernel
theorem dX7_minus_18 : decode cX7_minus 18 = .ok (.i2l, 1) := by decide +kernel
theorem dX7_minus_19 : decode cX7_minus 19 = .ok (.iload_n 2, 1) := by decide +kernel
theorem dX7_minus_20 : decode cX7_minus 20 = .ok (.i2l, 1) := by decide +kernel
theorem dX7_minus_21 : decode cX7_minus 21 = .ok (.invokestatic 45, 3) := by decide +kernel
theorem dX7_minus_24 : decode cX7_minus 24 = .ok (.lconst 1, 1) := by decide +kernel
theorem dX7_minus_25 : decode cX7_minus 25 = .ok (.lcmp, 1) := by decide +kernel
theorem dX7_minus_26 : decode cX7_minus 26 = .ok (.ifCond .ne 20, 3) := by decide +kernel
theorem dX7_minus_29 : decode cX7_minus 29 = .ok (.iload_n 3, 1) := by decide +kernel
theorem dX7_minus_30 : decode cX7_minus 30 = .ok (.iconst (-1), 1) := by decide +kernel
theorem dX7_minus_31 : decode cX7_minus 31 = .ok (.if_icmp .lt 15, 3) := by decide +kernel
theorem dX7_minus_34 : decode cX7_minus 34 = .ok (.iload_n 1, 1) := by decide +kernel
theorem dX7_minus_35 : decode cX7_minus 35 = .ok (.i2l, 1) := by decide +kernel
theorem dX7_minus_36 : decode cX7_minus 36 = .ok (.iload_n 2, 1) := by decide +kernel
theorem dX7_minus_37 : decode cX7_minus 37 = .ok (.i2l, 1) := by decide +kernel
theorem dX7_minus_38 : decode cX7_minus 38 = .ok (.iload_n 3, 1) := by decide +kernel
theorem dX7_minus_39 : decode cX7_minus 39 = .ok (.iconst 1, 1) := by decide +kernel
theorem dX7_minus_40 : decode cX7_minus 40 = .ok (.invokestatic 104, 3) := by decide +kernel
theorem dX7_minus_43 : decode cX7_minus 43 = .ok (.goto 4, 3) := by decide +kernel
theorem dX7_minus_46 : decode cX7_minus 46 = .ok (.iconst (-1), 1) := by decide +kernel
theorem dX7_minus_47 : decode cX7_minus 47 = .ok (.ireturn, 1) := by decide +kernel
theorem dX7_isLike_0 : decode cX7_isLike 0 = .ok (.aload_n 0, 1) := by decide +kernel
theorem dX7_isLike_1 : decode cX7_isLike 1 = .ok (.getfield 48, 3) := by decide +kernel
theorem dX7_isLike_4 : decode cX7_isLike 4 = .ok (.lload_n 1, 1) := by decide +kernel
theorem dX7_isLike_5 : decode cX7_isLike 5 = .ok (.lcmp, 1) := by decide +kernel
theorem dX7_isLike_6 : decode cX7_isLike 6 = .ok (.ifCond .ne 16, 3) := by decide +kernel
theorem dX7_isLike_9 : decode cX7_isLike 9 = .ok (.aload_n 0, 1) := by decide +kernel
theorem dX7_isLike_10 : decode cX7_isLike 10 = .ok (.getfield 51, 3) := by decide +kernel
theorem dX7_isLike_13 : decode cX7_isLike 13 = .ok (.lload_n 3, 1) := by decide +kernel
theorem dX7_isLike_14 : decode cX7_isLike 14 = .ok (.lcmp, 1) := by decide +kernel
theorem dX7_isLike_15 : decode cX7_isLike 15 = .ok (.ifCond .ne 7, 3) := by decide +kernel
theorem dX7_isLike_18 : decode cX7_isLike 18 = .ok (.iconst 1, 1) := by decide +kernel
theorem dX7_isLike_19 : decode cX7_isLike 19 = .ok (.goto 4, 3) := by decide +kernel
theorem dX7_isLike_22 : decode cX7_isLike 22 = .ok (.iconst 0, 1) := by decide +kernel
theorem dX7_isLike_23 : decode cX7_isLike 23 = .ok (.ireturn, 1) := by decide +kernel
set_option maxRecDepth 20000 in
theorem ggX7_alike_X7_isIn : GoodIn wsX7_alike wsX7_isIn := goodIn_r _ [8] (by decide +kernel) (by decide +kernel)
set_option maxRecDepth 20000 in
theorem gX7_alike_X7_isIn : GoodIn wsX7_alike (va_wsS RX7 72 yX7_isIn wsX7_isIn) := goodIn_app (goodIn_of _ (by decide +kernel)) ggX7_alike_X7_isIn
set_option maxRecDepth 20000 in
theorem ggX7_alike_X7_laysSum : GoodIn wsX7_alike wsX7_laysSum := goodIn_r _ [12, 13, 14, 15, 7, 16, 17, 18, 19, 20, 21, 22, 23, 24, 25, 26, 27, 28, 29, 30, 31, 32, 33, 3, 4, 38, 39, 40, 41, 42, 43, 44, 45, 46, 47, 48, 49, 50, 51, 52, 53, 54, 55, 56, 57, 58, 59, 60, 61] (by decide +kernel) (by decide +kernel)
set_option maxRecDepth 20000 in
theorem gX7_alike_X7_laysSum : GoodIn wsX7_alike (wsV RX7 87 RX7 yX7_laysSum wsX7_laysSum) := goodIn_app (goodIn_of _ (by decide +kernel)) ggX7_alike_X7_laysSum
set_option maxRecDepth 20000 in
theorem ggX7_alike_X7_common : GoodIn wsX7_alike wsX7_common := goodIn_r _ [16, 17, 18, 7, 19] (by decide +kernel) (by decide +kernel)
set_option maxRecDepth 20000 in
theorem gX7_alike_X7_common : GoodIn wsX7_alike (va_wsS RX7 45 yX7_common wsX7_common) := goodIn_app (goodIn_of _ (by decide +kernel)) ggX7_alike_X7_common
set_option maxRecDepth 20000 in
theorem ggX7_alike_X7_isLike : GoodIn wsX7_alike wsX7_isLike := goodIn_r _ [37, 3, 4, 38, 39, 40, 41, 42, 43, 44, 45, 46, 47, 48, 49, 50, 51, 52, 53, 54, 55, 56, 57, 58, 59, 60, 61] (by decide +kernel) (by decide +kernel)
set_option maxRecDepth 20000 in
theorem gX7_alike_X7_isLike : GoodIn wsX7_alike (wsV RX7 112 RX7 yX7_isLike wsX7_isLike) := goodIn_app (goodIn_of _ (by decide +kernel)) ggX7_alike_X7_isLike
theorem dX7_alike_0 : decode cX7_alike 0 = .ok (.aload_n 0, 1) := by decide +kernel
theorem dX7_alike_1 : decode cX7_alike 1 = .ok (.iconst 0, 1) := by decide +kernel
theorem dX7_alike_2 : decode cX7_alike 2 = .ok (.putfield 33, 3) := by decide +kernel
theorem dX7_alike_5 : decode cX7_alike 5 = .ok (.iload_n 2, 1) := by decide +kernel
theorem dX7_alike_6 : decode cX7_alike 6 = .ok (.i2l, 1) := by decide +kernel
theorem dX7_alike_7 : decode cX7_alike 7 = .ok (.lconst 1, 1) := by decide +kernel
theorem dX7_alike_8 : decode cX7_alike 8 = .ok (.ldc2_w 110, 3) := by decide +kernel
theorem dX7_alike_11 : decode cX7_alike 11 = .ok (.invokestatic 72, 3) := by decide +kernel
theorem dX7_alike_14 : decode cX7_alike 14 = .ok (.ifCond .ne 5, 3) := by decide +kernel
theorem dX7_alike_17 : decode cX7_alike 17 = .ok (.iconst (-1), 1) := by decide +kernel
theorem dX7_alike_18 : decode cX7_alike 18 = .ok (.ireturn, 1) := by decide +kernel
theorem dX7_alike_19 : decode cX7_alike 19 = .ok (.aload_n 0, 1) := by decide +kernel
theorem dX7_alike_20 : decode cX7_alike 20 = .ok (.iload_n 1, 1) := by decide +kernel
theorem dX7_alike_21 : decode cX7_alike 21 = .ok (.i2l, 1) := by decide +kernel
theorem dX7_alike_22 : decode cX7_alike 22 = .ok (.iload_n 2, 1) := by decide +kernel
theorem dX7_alike_23 : decode cX7_alike 23 = .ok (.i2l, 1) := by decide +kernel
theorem dX7_alike_24 : decode cX7_alike 24 = .ok (.invokevirtual 87, 3) := by decide +kernel
theorem dX7_alike_27 : decode cX7_alike 27 = .ok (.aload_n 0, 1) := by decide +kernel
theorem dX7_alike_28 : decode cX7_alike 28 = .ok (.getfield 48, 3) := by decide +kernel
theorem dX7_alike_31 : decode cX7_alike 31 = .ok (.lstore 4, 2) := by decide +kernel
theorem dX7_alike_33 : decode cX7_alike 33 = .ok (.aload_n 0, 1) := by decide +kernel
theorem dX7_alike_34 : decode cX7_alike 34 = .ok (.getfield 51, 3) := by decide +kernel
theorem dX7_alike_37 : decode cX7_alike 37 = .ok (.lstore 6, 2) := by decide +kernel
theorem dX7_alike_39 : decode cX7_alike 39 = .ok (.iconst 0, 1) := by decide +kernel
theorem dX7_alike_40 : decode cX7_alike 40 = .ok (.istore 8, 2) := by decide +kernel
theorem dX7_alike_42 : decode cX7_alike 42 = .ok (.iconst 0, 1) := by decide +kernel
theorem dX7_alike_43 : decode cX7_alike 43 = .ok (.istore 9, 2) := by decide +kernel
theorem dX7_alike_45 : decode cX7_alike 45 = .ok (.iload 9, 2) := by decide +kernel
theorem dX7_alike_47 : decode cX7_alike 47 = .ok (.iload_n 2, 1) := by decide +kernel
theorem dX7_alike_48 : decode cX7_alike 48 = .ok (.if_icmp .ge 60, 3) := by decide +kernel
theorem dX7_alike_51 : decode cX7_alike 51 = .ok (.iload 9, 2) := by decide +kernel
theorem dX7_alike_53 : decode cX7_alike 53 = .ok (.i2l, 1) := by decide +kernel
theorem dX7_alike_54 : decode cX7_alike 54 = .ok (.iload_n 2, 1) := by decide +kernel
theorem dX7_alike_55 : decode cX7_alike 55 = .ok (.i2l, 1) := by decide +kernel
theorem dX7_alike_56 : decode cX7_alike 56 = .ok (.invokestatic 45, 3) := by decide +kernel
theorem dX7_alike_59 : decode cX7_alike 59 = .ok (.lconst 1, 1) := by decide +kernel
theorem dX7_alike_60 : decode cX7_alike 60 = .ok (.lcmp, 1) := by decide +kernel
theorem dX7_alike_61 : decode cX7_alike 61 = .ok (.ifCond .eq 6, 3) := by decide +kernel
theorem dX7_alike_64 : decode cX7_alike 64 = .ok (.goto 38, 3) := by decide +kernel
theorem dX7_alike_67 : decode cX7_alike 67 = .ok (.aload_n 0, 1) := by decide +kernel
theorem dX7_alike_68 : decode cX7_alike 68 = .ok (.iload 9, 2) := by decide +kernel
theorem dX7_alike_70 : decode cX7_alike 70 = .ok (.i2l, 1) := by decide +kernel
theorem dX7_alike_71 : decode cX7_alike 71 = .ok (.iload_n 2, 1) := by decide +kernel
theorem dX7_alike_72 : decode cX7_alike 72 = .ok (.i2l, 1) := by decide +kernel
theorem dX7_alike_73 : decode cX7_alike 73 = .ok (.invokevirtual 87, 3) := by decide +kernel
theorem dX7_alike_76 : decode cX7_alike 76 = .ok (.aload_n 0, 1) := by decide +kernel
theorem dX7_alike_77 : decode cX7_alike 77 = .ok (.lload 4, 2) := by decide +kernel
theorem dX7_alike_79 : decode cX7_alike 79 = .ok (.lload 6, 2) := by decide +kernel
theorem dX7_alike_81 : decode cX7_alike 81 = .ok (.invokevirtual 112, 3) := by decide +kernel
theorem dX7_alike_84 : decode cX7_alike 84 = .ok (.ifCond .ne 6, 3) := by decide +kernel
theorem dX7_alike_87 : decode cX7_alike 87 = .ok (.goto 15, 3) := by decide +kernel
theorem dX7_alike_90 : decode cX7_alike 90 = .ok (.iload 8, 2) := by decide +kernel
theorem dX7_alike_92 : decode cX7_alike 92 = .ok (.iload_n 3, 1) := by decide +kernel
theorem dX7_alike_93 : decode cX7_alike 93 = .ok (.if_icmp .ne 6, 3) := by decide +kernel
theorem dX7_alike_96 : decode cX7_alike 96 = .ok (.iload 9, 2) := by decide +kernel
theorem dX7_alike_98 : decode cX7_alike 98 = .ok (.ireturn, 1) := by decide +kernel
theorem dX7_alike_99 : decode cX7_alike 99 = .ok (.iinc 8 1, 3) := by decide +kernel
theorem dX7_alike_102 : decode cX7_alike 102 = .ok (.iinc 9 1, 3) := by decide +kernel
theorem dX7_alike_105 : decode cX7_alike 105 = .ok (.goto (-60), 3) := by decide +kernel
theorem dX7_alike_108 : decode cX7_alike 108 = .ok (.iload_n 3, 1) := by decide +kernel
theorem dX7_alike_109 : decode cX7_alike 109 = .ok (.iconst (-1), 1) := by decide +kernel
theorem dX7_alike_110 : decode cX7_alike 110 = .ok (.if_icmp .ne 8, 3) := by decide +kernel
theorem dX7_alike_113 : decode cX7_alike 113 = .ok (.iload 8, 2) := by decide +kernel
theorem dX7_alike_115 : decode cX7_alike 115 = .ok (.goto 4, 3) := by decide +kernel
theorem dX7_alike_118 : decode cX7_alike 118 = .ok (.iconst (-1), 1) := by decide +kernel
theorem dX7_alike_119 : decode cX7_alike 119 = .ok (.ireturn, 1) := by decide +kernel
set_option maxRecDepth 20000 in
theorem ggX7_sorts_X7_isIn : GoodIn wsX7_sorts wsX7_isIn := goodIn_r _ [7] (by decide +kernel) (by decide +kernel)
set_option maxRecDepth 20000 in
theorem gX7_sorts_X7_isIn : GoodIn wsX7_sorts (va_wsS RX7 72 yX7_isIn wsX7_isIn) := goodIn_app (goodIn_of _ (by decide +kernel)) ggX7_sorts_X7_isIn
set_option maxRecDepth 20000 in
theorem ggX7_sorts_X7_common : GoodIn wsX7_sorts wsX7_common := goodIn_r _ [10, 11, 12, 6, 13] (by decide +kernel) (by decide +kernel)
set_option maxRecDepth 20000 in
theorem gX7_sorts_X7_common : GoodIn wsX7_sorts (va_wsS RX7 45 yX7_common wsX7_common) := goodIn_app (goodIn_of _ (by decide +kernel)) ggX7_sorts_X7_common
set_option maxRecDepth 20000 in
theorem ggX7_sorts_X7_twelve : GoodIn wsX7_sorts wsX7_twelve := goodIn_r _ [16, 17, 18, 19, 6, 20, 21, 22, 23] (by decide +kernel) (by decide +kernel)
set_option maxRecDepth 20000 in
theorem gX7_sorts_X7_twelve : GoodIn wsX7_sorts (va_wsS RX7 59 yX7_twelve wsX7_twelve) := goodIn_app (goodIn_of _ (by decide +kernel)) ggX7_sorts_X7_twelve
theorem dX7_sorts_0 : decode cX7_sorts 0 = .ok (.aload_n 0, 1) := by decide +kernel
theorem dX7_sorts_1 : decode cX7_sorts 1 = .ok (.iconst 0, 1) := by decide +kernel
theorem dX7_sorts_2 : decode cX7_sorts 2 = .ok (.putfield 33, 3) := by decide +kernel
theorem dX7_sorts_5 : decode cX7_sorts 5 = .ok (.iload_n 1, 1) := by decide +kernel
theorem dX7_sorts_6 : decode cX7_sorts 6 = .ok (.i2l, 1) := by decide +kernel
theorem dX7_sorts_7 : decode cX7_sorts 7 = .ok (.lconst 1, 1) := by decide +kernel
theorem dX7_sorts_8 : decode cX7_sorts 8 = .ok (.ldc2_w 110, 3) := by decide +kernel
theorem dX7_sorts_11 : decode cX7_sorts 11 = .ok (.invokestatic 72, 3) := by decide +kernel
theorem dX7_sorts_14 : decode cX7_sorts 14 = .ok (.ifCond .eq 13, 3) := by decide +kernel
theorem dX7_sorts_17 : decode cX7_sorts 17 = .ok (.iload_n 2, 1) := by decide +kernel
theorem dX7_sorts_18 : decode cX7_sorts 18 = .ok (.i2l, 1) := by decide +kernel
theorem dX7_sorts_19 : decode cX7_sorts 19 = .ok (.lconst 0, 1) := by decide +kernel
theorem dX7_sorts_20 : decode cX7_sorts 20 = .ok (.lconst 1, 1) := by decide +kernel
theorem dX7_sorts_21 : decode cX7_sorts 21 = .ok (.invokestatic 72, 3) := by decide +kernel
theorem dX7_sorts_24 : decode cX7_sorts 24 = .ok (.ifCond .ne 5, 3) := by decide +kernel
theorem dX7_sorts_27 : decode cX7_sorts 27 = .ok (.iconst (-1), 1) := by decide +kernel
theorem dX7_sorts_28 : decode cX7_sorts 28 = .ok (.ireturn, 1) := by decide +kernel
theorem dX7_sorts_29 : decode cX7_sorts 29 = .ok (.iconst 0, 1) := by decide +kernel
theorem dX7_sorts_30 : decode cX7_sorts 30 = .ok (.istore_n 3, 1) := by decide +kernel
theorem dX7_sorts_31 : decode cX7_sorts 31 = .ok (.iconst (-1), 1) := by decide +kernel
theorem dX7_sorts_32 : decode cX7_sorts 32 = .ok (.istore 4, 2) := by decide +kernel
theorem dX7_sorts_34 : decode cX7_sorts 34 = .ok (.lconst 0, 1) := by decide +kernel
theorem dX7_sorts_35 : decode cX7_sorts 35 = .ok (.lstore 5, 2) := by decide +kernel
theorem dX7_sorts_37 : decode cX7_sorts 37 = .ok (.iconst 0, 1) := by decide +kernel
theorem dX7_sorts_38 : decode cX7_sorts 38 = .ok (.istore 7, 2) := by decide +kernel
theorem dX7_sorts_40 : decode cX7_sorts 40 = .ok (.iload 7, 2) := by decide +kernel
theorem dX7_sorts_42 : decode cX7_sorts 42 = .ok (.iload_n 1, 1) := by decide +kernel
theorem dX7_sorts_43 : decode cX7_sorts 43 = .ok (.if_icmp .ge 146, 3) := by decide +kernel
theorem dX7_sorts_46 : decode cX7_sorts 46 = .ok (.iload 7, 2) := by decide +kernel
theorem dX7_sorts_48 : decode cX7_sorts 48 = .ok (.i2l, 1) := by decide +kernel
theorem dX7_sorts_49 : decode cX7_sorts 49 = .ok (.iload_n 1, 1) := by decide +kernel
theorem dX7_sorts_50 : decode cX7_sorts 50 = .ok (.i2l, 1) := by decide +kernel
theorem dX7_sorts_51 : decode cX7_sorts 51 = .ok (.invokestatic 45, 3) := by decide +kernel
theorem dX7_sorts_54 : decode cX7_sorts 54 = .ok (.lconst 1, 1) := by decide +kernel
theorem dX7_sorts_55 : decode cX7_sorts 55 = .ok (.lcmp, 1) := by decide +kernel
theorem dX7_sorts_56 : decode cX7_sorts 56 = .ok (.ifCond .eq 6, 3) := by decide +kernel
theorem dX7_sorts_59 : decode cX7_sorts 59 = .ok (.goto 124, 3) := by decide +kernel
theorem dX7_sorts_62 : decode cX7_sorts 62 = .ok (.iload 7, 2) := by decide +kernel
theorem dX7_sorts_64 : decode cX7_sorts 64 = .ok (.i2l, 1) := by decide +kernel
theorem dX7_sorts_65 : decode cX7_sorts 65 = .ok (.iload_n 1, 1) := by decide +kernel
theorem dX7_sorts_66 : decode cX7_sorts 66 = .ok (.i2l, 1) := by decide +kernel
theorem dX7_sorts_67 : decode cX7_sorts 67 = .ok (.invokestatic 59, 3) := by decide +kernel
theorem dX7_sorts_70 : decode cX7_sorts 70 = .ok (.lstore 8, 2) := by decide +kernel
theorem dX7_sorts_72 : decode cX7_sorts 72 = .ok (.iload 4, 2) := by decide +kernel
theorem dX7_sorts_74 : decode cX7_sorts 74 = .ok (.iconst (-1), 1) := by decide +kernel
theorem dX7_sorts_75 : decode cX7_sorts 75 = .ok (.if_icmp .eq 11, 3) := by decide +kernel
theorem dX7_sorts_78 : decode cX7_sorts 78 = .ok (.lload 8, 2) := by decide +kernel
theorem dX7_sorts_80 : decode cX7_sorts 80 = .ok (.lload 5, 2) := by decide +kernel
theorem dX7_sorts_82 : decode cX7_sorts 82 = .ok (.lcmp, 1) := by decide +kernel
theorem dX7_sorts_83 : decode cX7_sorts 83 = .ok (.ifCond .le 7, 3) := by decide +kernel
theorem dX7_sorts_86 : decode cX7_sorts 86 = .ok (.iconst 1, 1) := by decide +kernel
theorem dX7_sorts_87 : decode cX7_sorts 87 = .ok (.goto 4, 3) := by decide +kernel
theorem dX7_sorts_90 : decode cX7_sorts 90 = .ok (.iconst 0, 1) := by decide +kernel
theorem dX7_sorts_91 : decode cX7_sorts 91 = .ok (.istore 10, 2) := by decide +kernel
theorem dX7_sorts_93 : decode cX7_sorts 93 = .ok (.iload 10, 2) := by decide +kernel
theorem dX7_sorts_95 : decode cX7_sorts 95 = .ok (.ifCond .eq 8, 3) := by decide +kernel
theorem dX7_sorts_98 : decode cX7_sorts 98 = .ok (.iload 7, 2) := by decide +kernel
theorem dX7_sorts_100 : decode cX7_sorts 100 = .ok (.goto 5, 3) := by decide +kernel
theorem dX7_sorts_103 : decode cX7_sorts 103 = .ok (.iload 4, 2) := by decide +kernel
theorem dX7_sorts_105 : decode cX7_sorts 105 = .ok (.istore 4, 2) := by decide +kernel
theorem dX7_sorts_107 : decode cX7_sorts 107 = .ok (.iload 10, 2) := by decide +kernel
theorem dX7_sorts_109 : decode cX7_sorts 109 = .ok (.ifCond .eq 8, 3) := by decide +kernel
theorem dX7_sorts_112 : decode cX7_sorts 112 = .ok (.lload 8, 2) := by decide +kernel
theorem dX7_sorts_114 : decode cX7_sorts 114 = .ok (.goto 5, 3) := by decide +kernel
theorem dX7_sorts_117 : decode cX7_sorts 117 = .ok (.lload 5, 2) := by decide +kernel
theorem dX7_sorts_119 : decode cX7_sorts 119 = .ok (.lstore 5, 2) := by decide +kernel
theorem dX7_sorts_121 : decode cX7_sorts 121 = .ok (.iconst 0, 1) := by decide +kernel
theorem dX7_sorts_122 : decode cX7_sorts 122 = .ok (.istore 11, 2) := by decide +kernel
theorem dX7_sorts_124 : decode cX7_sorts 124 = .ok (.iconst 0, 1) := by decide +kernel
theorem dX7_sorts_125 : decode cX7_sorts 125 = .ok (.istore 12, 2) := by decide +kernel
theorem dX7_sorts_127 : decode cX7_sorts 127 = .ok (.iload 12, 2) := by decide +kernel
theorem dX7_sorts_129 : decode cX7_sorts 129 = .ok (.iload_n 3, 1) := by decide +kernel
theorem dX7_sorts_130 : decode cX7_sorts 130 = .ok (.if_icmp .ge 34, 3) := by decide +kernel
theorem dX7_sorts_133 : decode cX7_sorts 133 = .ok (.iload 11, 2) := by decide +kernel
theorem dX7_sorts_135 : decode cX7_sorts 135 = .ok (.ifCond .ne 16, 3) := by decide +kernel
theorem dX7_sorts_138 : decode cX7_sorts 138 = .ok (.aload_n 0, 1) := by decide +kernel
theorem dX7_sorts_139 : decode cX7_sorts 139 = .ok (.getfield 7, 3) := by decide +kernel
theorem dX7_sorts_142 : decode cX7_sorts 142 = .ok (.iload 12, 2) := by decide +kernel
theorem dX7_sorts_144 : decode cX7_sorts 144 = .ok (.laload, 1) := by decide +kernel
theorem dX7_sorts_145 : decode cX7_sorts 145 = .ok (.lload 8, 2) := by decide +kernel
theorem dX7_sorts_147 : decode cX7_sorts 147 = .ok (.lcmp, 1) := by decide +kernel
theorem dX7_sorts_148 : decode cX7_sorts 148 = .ok (.ifCond .ne 7, 3) := by decide +kernel
theorem dX7_sorts_151 : decode cX7_sorts 151 = .ok (.iconst 1, 1) := by decide +kernel
theorem dX7_sorts_152 : decode cX7_sorts 152 = .ok (.goto 4, 3) := by decide +kernel
theorem dX7_sorts_155 : decode cX7_sorts 155 = .ok (.iconst 0, 1) := by decide +kernel
theorem dX7_sorts_156 : decode cX7_sorts 156 = .ok (.istore 11, 2) := by decide +kernel
theorem dX7_sorts_158 : decode cX7_sorts 158 = .ok (.iinc 12 1, 3) := by decide +kernel
theorem dX7_sorts_161 : decode cX7_sorts 161 = .ok (.goto (-34), 3) := by decide +kernel
theorem dX7_sorts_164 : decode cX7_sorts 164 = .ok (.iload 11, 2) := by decide +kernel
theorem dX7_sorts_166 : decode cX7_sorts 166 = .ok (.ifCond .eq 6, 3) := by decide +kernel
theorem dX7_sorts_169 : decode cX7_sorts 169 = .ok (.goto 14, 3) := by decide +kernel
theorem dX7_sorts_172 : decode cX7_sorts 172 = .ok (.aload_n 0, 1) := by decide +kernel
theorem dX7_sorts_173 : decode cX7_sorts 173 = .ok (.getfield 7, 3) := by decide +kernel
theorem dX7_sorts_176 : decode cX7_sorts 176 = .ok (.iload_n 3, 1) := by decide +kernel
theorem dX7_sorts_177 : decode cX7_sorts 177 = .ok (.lload 8, 2) := by decide +kernel
theorem dX7_sorts_179 : decode cX7_sorts 179 = .ok (.lastore, 1) := by decide +kernel
theorem dX7_sorts_180 : decode cX7_sorts 180 = .ok (.iinc 3 1, 3) := by decide +kernel
theorem dX7_sorts_183 : decode cX7_sorts 183 = .ok (.iinc 7 1, 3) := by decide +kernel
theorem dX7_sorts_186 : decode cX7_sorts 186 = .ok (.goto (-146), 3) := by decide +kernel
theorem dX7_sorts_189 : decode cX7_sorts 189 = .ok (.iload_n 2, 1) := by decide +kernel
theorem dX7_sorts_190 : decode cX7_sorts 190 = .ok (.ifCond .ne 7, 3) := by decide +kernel
theorem dX7_sorts_193 : decode cX7_sorts 193 = .ok (.iload_n 3, 1) := by decide +kernel
theorem dX7_sorts_194 : decode cX7_sorts 194 = .ok (.goto 5, 3) := by decide +kernel
theorem dX7_sorts_197 : decode cX7_sorts 197 = .ok (.iload 4, 2) := by decide +kernel
theorem dX7_sorts_199 : decode cX7_sorts 199 = .ok (.ireturn, 1) := by decide +kernel
set_option maxRecDepth 20000 in
theorem ggX7_steps_X7_isIn : GoodIn wsX7_steps wsX7_isIn := goodIn_r _ [9] (by decide +kernel) (by decide +kernel)
set_option maxRecDepth 20000 in
theorem gX7_steps_X7_isIn : GoodIn wsX7_steps (va_wsS RX7 72 yX7_isIn wsX7_isIn) := goodIn_app (goodIn_of _ (by decide +kernel)) ggX7_steps_X7_isIn
set_option maxRecDepth 20000 in
theorem ggX7_steps_X7_down : GoodIn wsX7_steps wsX7_down := goodIn_r _ [12] (by decide +kernel) (by decide +kernel)
set_option maxRecDepth 20000 in
theorem gX7_steps_X7_down : GoodIn wsX7_steps (va_wsS RX7 41 yX7_down wsX7_down) := goodIn_app (goodIn_of _ (by decide +kernel)) ggX7_steps_X7_down
theorem dX7_steps_0 : decode cX7_steps 0 = .ok (.aload_n 0, 1) := by decide +kernel
theorem dX7_steps_1 : decode cX7_steps 1 = .ok (.iconst 0, 1) := by decide +kernel
theorem dX7_steps_2 : decode cX7_steps 2 = .ok (.putfield 33, 3) := by decide +kernel
theorem dX7_steps_5 : decode cX7_steps 5 = .ok (.iload_n 1, 1) := by decide +kernel
theorem dX7_steps_6 : decode cX7_steps 6 = .ok (.i2l, 1) := by decide +kernel
theorem dX7_steps_7 : decode cX7_steps 7 = .ok (.ldc2_w 116, 3) := by decide +kernel
theorem dX7_steps_10 : decode cX7_steps 10 = .ok (.ldc2_w 118, 3) := by decide +kernel
theorem dX7_steps_13 : decode cX7_steps 13 = .ok (.invokestatic 72, 3) := by decide +kernel
theorem dX7_steps_16 : decode cX7_steps 16 = .ok (.ifCond .eq 42, 3) := by decide +kernel
theorem dX7_steps_19 : decode cX7_steps 19 = .ok (.iload_n 2, 1) := by decide +kernel
theorem dX7_steps_20 : decode cX7_steps 20 = .ok (.i2l, 1) := by decide +kernel
theorem dX7_steps_21 : decode cX7_steps 21 = .ok (.ldc2_w 116, 3) := by decide +kernel
theorem dX7_steps_24 : decode cX7_steps 24 = .ok (.ldc2_w 118, 3) := by decide +kernel
theorem dX7_steps_27 : decode cX7_steps 27 = .ok (.invokestatic 72, 3) := by decide +kernel
theorem dX7_steps_30 : decode cX7_steps 30 = .ok (.ifCond .eq 28, 3) := by decide +kernel
theorem dX7_steps_33 : decode cX7_steps 33 = .ok (.iload_n 3, 1) := by decide +kernel
theorem dX7_steps_34 : decode cX7_steps 34 = .ok (.i2l, 1) := by decide +kernel
theorem dX7_steps_35 : decode cX7_steps 35 = .ok (.lconst 1, 1) := by decide +kernel
theorem dX7_steps_36 : decode cX7_steps 36 = .ok (.ldc2_w 118, 3) := by decide +kernel
theorem dX7_steps_39 : decode cX7_steps 39 = .ok (.invokestatic 72, 3) := by decide +kernel
theorem dX7_steps_42 : decode cX7_steps 42 = .ok (.ifCond .eq 16, 3) := by decide +kernel
theorem dX7_steps_45 : decode cX7_steps 45 = .ok (.iload 4, 2) := by decide +kernel
theorem dX7_steps_47 : decode cX7_steps 47 = .ok (.i2l, 1) := by decide +kernel
theorem dX7_steps_48 : decode cX7_steps 48 = .ok (.lconst 0, 1) := by decide +kernel
theorem dX7_steps_49 : decode cX7_steps 49 = .ok (.ldc2_w 120, 3) := by decide +kernel
theorem dX7_steps_52 : decode cX7_steps 52 = .ok (.invokestatic 72, 3) := by decide +kernel
theorem dX7_steps_55 : decode cX7_steps 55 = .ok (.ifCond .ne 7, 3) := by decide +kernel
theorem dX7_steps_58 : decode cX7_steps 58 = .ok (.ldc2_w 76, 3) := by decide +kernel
theorem dX7_steps_61 : decode cX7_steps 61 = .ok (.lreturn, 1) := by decide +kernel
theorem dX7_steps_62 : decode cX7_steps 62 = .ok (.lconst 0, 1) := by decide +kernel
theorem dX7_steps_63 : decode cX7_steps 63 = .ok (.lstore 5, 2) := by decide +kernel
theorem dX7_steps_65 : decode cX7_steps 65 = .ok (.iconst 0, 1) := by decide +kernel
theorem dX7_steps_66 : decode cX7_steps 66 = .ok (.istore 7, 2) := by decide +kernel
theorem dX7_steps_68 : decode cX7_steps 68 = .ok (.iload 7, 2) := by decide +kernel
theorem dX7_steps_70 : decode cX7_steps 70 = .ok (.iload 4, 2) := by decide +kernel
theorem dX7_steps_72 : decode cX7_steps 72 = .ok (.if_icmp .ge 28, 3) := by decide +kernel
theorem dX7_steps_75 : decode cX7_steps 75 = .ok (.lload 5, 2) := by decide +kernel
theorem dX7_steps_77 : decode cX7_steps 77 = .ok (.iload_n 1, 1) := by decide +kernel
theorem dX7_steps_78 : decode cX7_steps 78 = .ok (.i2l, 1) := by decide +kernel
theorem dX7_steps_79 : decode cX7_steps 79 = .ok (.iload 7, 2) := by decide +kernel
theorem dX7_steps_81 : decode cX7_steps 81 = .ok (.i2l, 1) := by decide +kernel
theorem dX7_steps_82 : decode cX7_steps 82 = .ok (.lmul, 1) := by decide +kernel
theorem dX7_steps_83 : decode cX7_steps 83 = .ok (.iload_n 2, 1) := by decide +kernel
theorem dX7_steps_84 : decode cX7_steps 84 = .ok (.i2l, 1) := by decide +kernel
theorem dX7_steps_85 : decode cX7_steps 85 = .ok (.ladd, 1) := by decide +kernel
theorem dX7_steps_86 : decode cX7_steps 86 = .ok (.iload_n 3, 1) := by decide +kernel
theorem dX7_steps_87 : decode cX7_steps 87 = .ok (.i2l, 1) := by decide +kernel
theorem dX7_steps_88 : decode cX7_steps 88 = .ok (.invokestatic 41, 3) := by decide +kernel
theorem dX7_steps_91 : decode cX7_steps 91 = .ok (.ladd, 1) := by decide +kernel
theorem dX7_steps_92 : decode cX7_steps 92 = .ok (.lstore 5, 2) := by decide +kernel
theorem dX7_steps_94 : decode cX7_steps 94 = .ok (.iinc 7 1, 3) := by decide +kernel
theorem dX7_steps_97 : decode cX7_steps 97 = .ok (.goto (-29), 3) := by decide +kernel
theorem dX7_steps_100 : decode cX7_steps 100 = .ok (.lload 5, 2) := by decide +kernel
theorem dX7_steps_102 : decode cX7_steps 102 = .ok (.lreturn, 1) := by decide +kernel
theorem dX7_floors_0 : decode cX7_floors 0 = .ok (.lconst 0, 1) := by decide +kernel
theorem dX7_floors_1 : decode cX7_floors 1 = .ok (.lstore 8, 2) := by decide +kernel
theorem dX7_floors_3 : decode cX7_floors 3 = .ok (.lload_n 0, 1) := by decide +kernel
theorem dX7_floors_4 : decode cX7_floors 4 = .ok (.lstore 10, 2) := by decide +kernel
theorem dX7_floors_6 : decode cX7_floors 6 = .ok (.lload_n 2, 1) := by decide +kernel
theorem dX7_floors_7 : decode cX7_floors 7 = .ok (.lstore 12, 2) := by decide +kernel
theorem dX7_floors_9 : decode cX7_floors 9 = .ok (.lload 4, 2) := by decide +kernel
theorem dX7_floors_11 : decode cX7_floors 11 = .ok (.lstore 14, 2) := by decide +kernel
theorem dX7_floors_13 : decode cX7_floors 13 = .ok (.lload 6, 2) := by decide +kernel
theorem dX7_floors_15 : decode cX7_floors 15 = .ok (.lstore 16, 2) := by decide +kernel
theorem dX7_floors_17 : decode cX7_floors 17 = .ok (.lload 16, 2) := by decide +kernel
theorem dX7_floors_19 : decode cX7_floors 19 = .ok (.lconst 0, 1) := by decide +kernel
theorem dX7_floors_20 : decode cX7_floors 20 = .ok (.lcmp, 1) := by decide +kernel
theorem dX7_floors_21 : decode cX7_floors 21 = .ok (.ifCond .le 123, 3) := by decide +kernel
theorem dX7_floors_24 : decode cX7_floors 24 = .ok (.lload 8, 2) := by decide +kernel
theorem dX7_floors_26 : decode cX7_floors 26 = .ok (.lload 10, 2) := by decide +kernel
theorem dX7_floors_28 : decode cX7_floors 28 = .ok (.lload 14, 2) := by decide +kernel
theorem dX7_floors_30 : decode cX7_floors 30 = .ok (.ldiv, 1) := by decide +kernel
theorem dX7_floors_31 : decode cX7_floors 31 = .ok (.lload 16, 2) := by decide +kernel
theorem dX7_floors_33 : decode cX7_floors 33 = .ok (.ldc2_w 85, 3) := by decide +kernel
theorem dX7_floors_36 : decode cX7_floors 36 = .ok (.lrem, 1) := by decide +kernel
theorem dX7_floors_37 : decode cX7_floors 37 = .ok (.lconst 0, 1) := by decide +kernel
theorem dX7_floors_38 : decode cX7_floors 38 = .ok (.lcmp, 1) := by decide +kernel
theorem dX7_floors_39 : decode cX7_floors 39 = .ok (.ifCond .ne 17, 3) := by decide +kernel
theorem dX7_floors_42 : decode cX7_floors 42 = .ok (.lload 16, 2) := by decide +kernel
theorem dX7_floors_44 : decode cX7_floors 44 = .ok (.ldc2_w 85, 3) := by decide +kernel
theorem dX7_floors_47 : decode cX7_floors 47 = .ok (.ldiv, 1) := by decide +kernel
theorem dX7_floors_48 : decode cX7_floors 48 = .ok (.lload 16, 2) := by decide +kernel
theorem dX7_floors_50 : decode cX7_floors 50 = .ok (.lconst 1, 1) := by decide +kernel
theorem dX7_floors_51 : decode cX7_floors 51 = .ok (.lsub, 1) := by decide +kernel
theorem dX7_floors_52 : decode cX7_floors 52 = .ok (.lmul, 1) := by decide +kernel
theorem dX7_floors_53 : decode cX7_floors 53 = .ok (.goto 14, 3) := by decide +kernel
theorem dX7_floors_56 : decode cX7_floors 56 = .ok (.lload 16, 2) := by decide +kernel
theorem dX7_floors_58 : decode cX7_floors 58 = .ok (.lconst 1, 1) := by decide +kernel
theorem dX7_floors_59 : decode cX7_floors 59 = .ok (.lsub, 1) := by decide +kernel
theorem dX7_floors_60 : decode cX7_floors 60 = .ok (.ldc2_w 85, 3) := by decide +kernel
theorem dX7_floors_63 : decode cX7_floors 63 = .ok (.ldiv, 1) := by decide +kernel
theorem dX7_floors_64 : decode cX7_floors 64 = .ok (.lload 16, 2) := by decide +kernel
theorem dX7_floors_66 : decode cX7_floors 66 = .ok (.lmul, 1) := by decide +kernel
theorem dX7_floors_67 : decode cX7_floors 67 = .ok (.lmul, 1) := by decide +kernel
theorem dX7_floors_68 : decode cX7_floors 68 = .ok (.lload 12, 2) := by decide +kernel
theorem dX7_floors_70 : decode cX7_floors 70 = .ok (.lload 14, 2) := by decide +kernel
theorem dX7_floors_72 : decode cX7_floors 72 = .ok (.ldiv, 1) := by decide +kernel
theorem dX7_floors_73 : decode cX7_floors 73 = .ok (.lload 16, 2) := by decide +kernel
theorem dX7_floors_75 : decode cX7_floors 75 = .ok (.lmul, 1) := by decide +kernel
theorem dX7_floors_76 : decode cX7_floors 76 = .ok (.ladd, 1) := by decide +kernel
theorem dX7_floors_77 : decode cX7_floors 77 = .ok (.ladd, 1) := by decide +kernel
theorem dX7_floors_78 : decode cX7_floors 78 = .ok (.lstore 8, 2) := by decide +kernel
theorem dX7_floors_80 : decode cX7_floors 80 = .ok (.lload 10, 2) := by decide +kernel
theorem dX7_floors_82 : decode cX7_floors 82 = .ok (.lload 14, 2) := by decide +kernel
theorem dX7_floors_84 : decode cX7_floors 84 = .ok (.lrem, 1) := by decide +kernel
theorem dX7_floors_85 : decode cX7_floors 85 = .ok (.lstore 10, 2) := by decide +kernel
theorem dX7_floors_87 : decode cX7_floors 87 = .ok (.lload 12, 2) := by decide +kernel
theorem dX7_floors_89 : decode cX7_floors 89 = .ok (.lload 14, 2) := by decide +kernel
theorem dX7_floors_91 : decode cX7_floors 91 = .ok (.lrem, 1) := by decide +kernel
theorem dX7_floors_92 : decode cX7_floors 92 = .ok (.lstore 12, 2) := by decide +kernel
theorem dX7_floors_94 : decode cX7_floors 94 = .ok (.lload 10, 2) := by decide +kernel
theorem dX7_floors_96 : decode cX7_floors 96 = .ok (.lload 16, 2) := by decide +kernel
theorem dX7_floors_98 : decode cX7_floors 98 = .ok (.lmul, 1) := by decide +kernel
theorem dX7_floors_99 : decode cX7_floors 99 = .ok (.lload 12, 2) := by decide +kernel
theorem dX7_floors_101 : decode cX7_floors 101 = .ok (.ladd, 1) := by decide +kernel
theorem dX7_floors_102 : decode cX7_floors 102 = .ok (.lstore 18, 2) := by decide +kernel
theorem dX7_floors_104 : decode cX7_floors 104 = .ok (.lload 18, 2) := by decide +kernel
theorem dX7_floors_106 : decode cX7_floors 106 = .ok (.lload 14, 2) := by decide +kernel
theorem dX7_floors_108 : decode cX7_floors 108 = .ok (.lcmp, 1) := by decide +kernel
theorem dX7_floors_109 : decode cX7_floors 109 = .ok (.ifCond .ge 6, 3) := by decide +kernel
theorem dX7_floors_112 : decode cX7_floors 112 = .ok (.lload 8, 2) := by decide +kernel
theorem dX7_floors_114 : decode cX7_floors 114 = .ok (.lreturn, 1) := by decide +kernel
theorem dX7_floors_115 : decode cX7_floors 115 = .ok (.lload 18, 2) := by decide +kernel
theorem dX7_floors_117 : decode cX7_floors 117 = .ok (.lload 14, 2) := by decide +kernel
theorem dX7_floors_119 : decode cX7_floors 119 = .ok (.ldiv, 1) := by decide +kernel
theorem dX7_floors_120 : decode cX7_floors 120 = .ok (.lstore 16, 2) := by decide +kernel
theorem dX7_floors_122 : decode cX7_floors 122 = .ok (.lload 18, 2) := by decide +kernel
theorem dX7_floors_124 : decode cX7_floors 124 = .ok (.lload 14, 2) := by decide +kernel
theorem dX7_floors_126 : decode cX7_floors 126 = .ok (.lrem, 1) := by decide +kernel
theorem dX7_floors_127 : decode cX7_floors 127 = .ok (.lstore 12, 2) := by decide +kernel
theorem dX7_floors_129 : decode cX7_floors 129 = .ok (.lload 14, 2) := by decide +kernel
theorem dX7_floors_131 : decode cX7_floors 131 = .ok (.lstore 20, 2) := by decide +kernel
theorem dX7_floors_133 : decode cX7_floors 133 = .ok (.lload 10, 2) := by decide +kernel
theorem dX7_floors_135 : decode cX7_floors 135 = .ok (.lstore 14, 2) := by decide +kernel
theorem dX7_floors_137 : decode cX7_floors 137 = .ok (.lload 20, 2) := by decide +kernel
theorem dX7_floors_139 : decode cX7_floors 139 = .ok (.lstore 10, 2) := by decide +kernel
theorem dX7_floors_141 : decode cX7_floors 141 = .ok (.goto (-124), 3) := by decide +kernel
theorem dX7_floors_144 : decode cX7_floors 144 = .ok (.lload 8, 2) := by decide +kernel
theorem dX7_floors_146 : decode cX7_floors 146 = .ok (.lreturn, 1) := by decide +kernel
set_option maxRecDepth 20000 in
theorem ggX7_below_X7_floors : GoodIn wsX7_below wsX7_floors := goodIn_r _ [4, 5] (by decide +kernel) (by decide +kernel)
set_option maxRecDepth 20000 in
theorem gX7_below_X7_floors : GoodIn wsX7_below (va_wsS RX7 122 yX7_floors wsX7_floors) := goodIn_app (goodIn_of _ (by decide +kernel)) ggX7_below_X7_floors
theorem dX7_below_0 : decode cX7_below 0 = .ok (.lload 4, 2) := by decide +kernel
theorem dX7_below_2 : decode cX7_below 2 = .ok (.lconst 0, 1) := by decide +kernel
theorem dX7_below_3 : decode cX7_below 3 = .ok (.lcmp, 1) := by decide +kernel
theorem dX7_below_4 : decode cX7_below 4 = .ok (.ifCond .ge 5, 3) := by decide +kernel
theorem dX7_below_7 : decode cX7_below 7 = .ok (.lconst 0, 1) := by decide +kernel
theorem dX7_below_8 : decode cX7_below 8 = .ok (.lreturn, 1) := by decide +kernel
theorem dX7_below_9 : decode cX7_below 9 = .ok (.lload 4, 2) := by decide +kernel
theorem dX7_below_11 : decode cX7_below 11 = .ok (.lload_n 0, 1) := by decide +kernel
theorem dX7_below_12 : decode cX7_below 12 = .ok (.ldiv, 1) := by decide +kernel
theorem dX7_below_13 : decode cX7_below 13 = .ok (.lconst 1, 1) := by decide +kernel
theorem dX7_below_14 : decode cX7_below 14 = .ok (.ladd, 1) := by decide +kernel
theorem dX7_below_15 : decode cX7_below 15 = .ok (.lstore 6, 2) := by decide +kernel
theorem dX7_below_17 : decode cX7_below 17 = .ok (.lload_n 0, 1) := by decide +kernel
theorem dX7_below_18 : decode cX7_below 18 = .ok (.lload 4, 2) := by decide +kernel
theorem dX7_below_20 : decode cX7_below 20 = .ok (.lload_n 0, 1) := by decide +kernel
theorem dX7_below_21 : decode cX7_below 21 = .ok (.lrem, 1) := by decide +kernel
theorem dX7_below_22 : decode cX7_below 22 = .ok (.lload_n 2, 1) := by decide +kernel
theorem dX7_below_23 : decode cX7_below 23 = .ok (.lload 6, 2) := by decide +kernel
theorem dX7_below_25 : decode cX7_below 25 = .ok (.invokestatic 122, 3) := by decide +kernel
theorem dX7_below_28 : decode cX7_below 28 = .ok (.lload 6, 2) := by decide +kernel
theorem dX7_below_30 : decode cX7_below 30 = .ok (.ladd, 1) := by decide +kernel
theorem dX7_below_31 : decode cX7_below 31 = .ok (.lreturn, 1) := by decide +kernel
set_option maxRecDepth 20000 in
theorem ggX7_isTriangle_X7_isIn : GoodIn wsX7_isTriangle wsX7_isIn := goodIn_r _ [6] (by decide +kernel) (by decide +kernel)
set_option maxRecDepth 20000 in
theorem gX7_isTriangle_X7_isIn : GoodIn wsX7_isTriangle (va_wsS RX7 72 yX7_isIn wsX7_isIn) := goodIn_app (goodIn_of _ (by decide +kernel)) ggX7_isTriangle_X7_isIn
theorem dX7_isTriangle_0 : decode cX7_isTriangle 0 = .ok (.iload_n 0, 1) := by decide +kernel
theorem dX7_isTriangle_1 : decode cX7_isTriangle 1 = .ok (.i2l, 1) := by decide +kernel
theorem dX7_isTriangle_2 : decode cX7_isTriangle 2 = .ok (.lconst 1, 1) := by decide +kernel
theorem dX7_isTriangle_3 : decode cX7_isTriangle 3 = .ok (.ldc2_w 118, 3) := by decide +kernel
theorem dX7_isTriangle_6 : decode cX7_isTriangle 6 = .ok (.invokestatic 72, 3) := by decide +kernel
theorem dX7_isTriangle_9 : decode cX7_isTriangle 9 = .ok (.ifCond .eq 31, 3) := by decide +kernel
theorem dX7_isTriangle_12 : decode cX7_isTriangle 12 = .ok (.iload_n 1, 1) := by decide +kernel
theorem dX7_isTriangle_13 : decode cX7_isTriangle 13 = .ok (.i2l, 1) := by decide +kernel
theorem dX7_isTriangle_14 : decode cX7_isTriangle 14 = .ok (.lconst 1, 1) := by decide +kernel
theorem dX7_isTriangle_15 : decode cX7_isTriangle 15 = .ok (.ldc2_w 118, 3) := by decide +kernel
theorem dX7_isTriangle_18 : decode cX7_isTriangle 18 = .ok (.invokestatic 72, 3) := by decide +kernel
theorem dX7_isTriangle_21 : decode cX7_isTriangle 21 = .ok (.ifCond .eq 19, 3) := by decide +kernel
theorem dX7_isTriangle_24 : decode cX7_isTriangle 24 = .ok (.iload_n 2, 1) := by decide +kernel
theorem dX7_isTriangle_25 : decode cX7_isTriangle 25 = .ok (.i2l, 1) := by decide +kernel
theorem dX7_isTriangle_26 : decode cX7_isTriangle 26 = .ok (.lconst 0, 1) := by decide +kernel
theorem dX7_isTriangle_27 : decode cX7_isTriangle 27 = .ok (.ldc2_w 70, 3) := by decide +kernel
theorem dX7_isTriangle_30 : decode cX7_isTriangle 30 = .ok (.invokestatic 72, 3) := by decide +kernel
theorem dX7_isTriangle_33 : decode cX7_isTriangle 33 = .ok (.ifCond .eq 7, 3) := by decide +kernel
theorem dX7_isTriangle_36 : decode cX7_isTriangle 36 = .ok (.iconst 1, 1) := by decide +kernel
theorem dX7_isTriangle_37 : decode cX7_isTriangle 37 = .ok (.goto 4, 3) := by decide +kernel
theorem dX7_isTriangle_40 : decode cX7_isTriangle 40 = .ok (.iconst 0, 1) := by decide +kernel
theorem dX7_isTriangle_41 : decode cX7_isTriangle 41 = .ok (.ireturn, 1) := by decide +kernel
set_option maxRecDepth 20000 in
theorem ggX7_triangle_X7_isTriangle : GoodIn wsX7_triangle wsX7_isTriangle := goodIn_r _ [6, 7, 8, 9, 10, 5, 11] (by decide +kernel) (by decide +kernel)
set_option maxRecDepth 20000 in
theorem gX7_triangle_X7_isTriangle : GoodIn wsX7_triangle (va_wsS RX7 126 yX7_isTriangle wsX7_isTriangle) := goodIn_app (goodIn_of _ (by decide +kernel)) ggX7_triangle_X7_isTriangle
set_option maxRecDepth 20000 in
theorem ggX7_triangle_X7_below : GoodIn wsX7_triangle wsX7_below := goodIn_r _ [14, 15, 16, 5, 17, 18] (by decide +kernel) (by decide +kernel)
set_option maxRecDepth 20000 in
theorem gX7_triangle_X7_below : GoodIn wsX7_triangle (va_wsS RX7 130 yX7_below wsX7_below) := goodIn_app (goodIn_of _ (by decide +kernel)) ggX7_triangle_X7_below
theorem dX7_triangle_0 : decode cX7_triangle 0 = .ok (.aload_n 0, 1) := by decide +kernel
theorem dX7_triangle_1 : decode cX7_triangle 1 = .ok (.iconst 0, 1) := by decide +kernel
theorem dX7_triangle_2 : decode cX7_triangle 2 = .ok (.putfield 33, 3) := by decide +kernel
theorem dX7_triangle_5 : decode cX7_triangle 5 = .ok (.iload_n 1, 1) := by decide +kernel
theorem dX7_triangle_6 : decode cX7_triangle 6 = .ok (.iload_n 2, 1) := by decide +kernel
theorem dX7_triangle_7 : decode cX7_triangle 7 = .ok (.iload_n 3, 1) := by decide +kernel
theorem dX7_triangle_8 : decode cX7_triangle 8 = .ok (.invokestatic 126, 3) := by decide +kernel
theorem dX7_triangle_11 : decode cX7_triangle 11 = .ok (.ifCond .eq 15, 3) := by decide +kernel
theorem dX7_triangle_14 : decode cX7_triangle 14 = .ok (.iload_n 1, 1) := by decide +kernel
theorem dX7_triangle_15 : decode cX7_triangle 15 = .ok (.i2l, 1) := by decide +kernel
theorem dX7_triangle_16 : decode cX7_triangle 16 = .ok (.iload_n 2, 1) := by decide +kernel
theorem dX7_triangle_17 : decode cX7_triangle 17 = .ok (.i2l, 1) := by decide +kernel
theorem dX7_triangle_18 : decode cX7_triangle 18 = .ok (.iload_n 3, 1) := by decide +kernel
theorem dX7_triangle_19 : decode cX7_triangle 19 = .ok (.i2l, 1) := by decide +kernel
theorem dX7_triangle_20 : decode cX7_triangle 20 = .ok (.invokestatic 130, 3) := by decide +kernel
theorem dX7_triangle_23 : decode cX7_triangle 23 = .ok (.goto 6, 3) := by decide +kernel
theorem dX7_triangle_26 : decode cX7_triangle 26 = .ok (.ldc2_w 76, 3) := by decide +kernel
theorem dX7_triangle_29 : decode cX7_triangle 29 = .ok (.lreturn, 1) := by decide +kernel
set_option maxRecDepth 20000 in
theorem ggX7_inside_X7_isTriangle : GoodIn wsX7_inside wsX7_isTriangle := goodIn_r _ [6, 7, 8, 9, 10, 5, 11] (by decide +kernel) (by decide +kernel)
set_option maxRecDepth 20000 in
theorem gX7_inside_X7_isTriangle : GoodIn wsX7_inside (va_wsS RX7 126 yX7_isTriangle wsX7_isTriangle) := goodIn_app (goodIn_of _ (by decide +kernel)) ggX7_inside_X7_isTriangle
set_option maxRecDepth 20000 in
theorem ggX7_inside_X7_below : GoodIn wsX7_inside wsX7_below := goodIn_r _ [14, 15, 16, 5, 17, 18] (by decide +kernel) (by decide +kernel)
set_option maxRecDepth 20000 in
theorem gX7_inside_X7_below : GoodIn wsX7_inside (va_wsS RX7 130 yX7_below wsX7_below) := goodIn_app (goodIn_of _ (by decide +kernel)) ggX7_inside_X7_below
theorem dX7_inside_0 : decode cX7_inside 0 = .ok (.aload_n 0, 1) := by decide +kernel
theorem dX7_inside_1 : decode cX7_inside 1 = .ok (.iconst 0, 1) := by decide +kernel
theorem dX7_inside_2 : decode cX7_inside 2 = .ok (.putfield 33, 3) := by decide +kernel
theorem dX7_inside_5 : decode cX7_inside 5 = .ok (.iload_n 1, 1) := by decide +kernel
theorem dX7_inside_6 : decode cX7_inside 6 = .ok (.iload_n 2, 1) := by decide +kernel
theorem dX7_inside_7 : decode cX7_inside 7 = .ok (.iload_n 3, 1) := by decide +kernel
theorem dX7_inside_8 : decode cX7_inside 8 = .ok (.invokestatic 126, 3) := by decide +kernel
theorem dX7_inside_11 : decode cX7_inside 11 = .ok (.ifCond .eq 23, 3) := by decide +kernel
theorem dX7_inside_14 : decode cX7_inside 14 = .ok (.iload_n 1, 1) := by decide +kernel
theorem dX7_inside_15 : decode cX7_inside 15 = .ok (.i2l, 1) := by decide +kernel
theorem dX7_inside_16 : decode cX7_inside 16 = .ok (.iload_n 2, 1) := by decide +kernel
theorem dX7_inside_17 : decode cX7_inside 17 = .ok (.i2l, 1) := by decide +kernel
theorem dX7_inside_18 : decode cX7_inside 18 = .ok (.iload_n 3, 1) := by decide +kernel
theorem dX7_inside_19 : decode cX7_inside 19 = .ok (.i2l, 1) := by decide +kernel
theorem dX7_inside_20 : decode cX7_inside 20 = .ok (.lconst 1, 1) := by decide +kernel
theorem dX7_inside_21 : decode cX7_inside 21 = .ok (.lsub, 1) := by decide +kernel
theorem dX7_inside_22 : decode cX7_inside 22 = .ok (.iload_n 1, 1) := by decide +kernel
theorem dX7_inside_23 : decode cX7_inside 23 = .ok (.i2l, 1) := by decide +kernel
theorem dX7_inside_24 : decode cX7_inside 24 = .ok (.lsub, 1) := by decide +kernel
theorem dX7_inside_25 : decode cX7_inside 25 = .ok (.iload_n 2, 1) := by decide +kernel
theorem dX7_inside_26 : decode cX7_inside 26 = .ok (.i2l, 1) := by decide +kernel
theorem dX7_inside_27 : decode cX7_inside 27 = .ok (.lsub, 1) := by decide +kernel
theorem dX7_inside_28 : decode cX7_inside 28 = .ok (.invokestatic 130, 3) := by decide +kernel
theorem dX7_inside_31 : decode cX7_inside 31 = .ok (.goto 6, 3) := by decide +kernel
theorem dX7_inside_34 : decode cX7_inside 34 = .ok (.ldc2_w 76, 3) := by decide +kernel
theorem dX7_inside_37 : decode cX7_inside 37 = .ok (.lreturn, 1) := by decide +kernel
set_option maxRecDepth 20000 in
theorem ggX7_pyramid_X7_isIn : GoodIn wsX7_pyramid wsX7_isIn := goodIn_r _ [7] (by decide +kernel) (by decide +kernel)
set_option maxRecDepth 20000 in
theorem gX7_pyramid_X7_isIn : GoodIn wsX7_pyramid (va_wsS RX7 72 yX7_isIn wsX7_isIn) := goodIn_app (goodIn_of _ (by decide +kernel)) ggX7_pyramid_X7_isIn
theorem dX7_pyramid_0 : decode cX7_pyramid 0 = .ok (.aload_n 0, 1) := by decide +kernel
theorem dX7_pyramid_1 : decode cX7_pyramid 1 = .ok (.iconst 0, 1) := by decide +kernel
theorem dX7_pyramid_2 : decode cX7_pyramid 2 = .ok (.putfield 33, 3) := by decide +kernel
theorem dX7_pyramid_5 : decode cX7_pyramid 5 = .ok (.iload_n 1, 1) := by decide +kernel
theorem dX7_pyramid_6 : decode cX7_pyramid 6 = .ok (.i2l, 1) := by decide +kernel
theorem dX7_pyramid_7 : decode cX7_pyramid 7 = .ok (.lconst 1, 1) := by decide +kernel
theorem dX7_pyramid_8 : decode cX7_pyramid 8 = .ok (.ldc2_w 134, 3) := by decide +kernel
theorem dX7_pyramid_11 : decode cX7_pyramid 11 = .ok (.invokestatic 72, 3) := by decide +kernel
theorem dX7_pyramid_14 : decode cX7_pyramid 14 = .ok (.ifCond .eq 27, 3) := by decide +kernel
theorem dX7_pyramid_17 : decode cX7_pyramid 17 = .ok (.iload_n 2, 1) := by decide +kernel
theorem dX7_pyramid_18 : decode cX7_pyramid 18 = .ok (.i2l, 1) := by decide +kernel
theorem dX7_pyramid_19 : decode cX7_pyramid 19 = .ok (.lconst 1, 1) := by decide +kernel
theorem dX7_pyramid_20 : decode cX7_pyramid 20 = .ok (.ldc2_w 134, 3) := by decide +kernel
theorem dX7_pyramid_23 : decode cX7_pyramid 23 = .ok (.invokestatic 72, 3) := by decide +kernel
theorem dX7_pyramid_26 : decode cX7_pyramid 26 = .ok (.ifCond .eq 15, 3) := by decide +kernel
theorem dX7_pyramid_29 : decode cX7_pyramid 29 = .ok (.iload_n 3, 1) := by decide +kernel
theorem dX7_pyramid_30 : decode cX7_pyramid 30 = .ok (.i2l, 1) := by decide +kernel
theorem dX7_pyramid_31 : decode cX7_pyramid 31 = .ok (.lconst 1, 1) := by decide +kernel
theorem dX7_pyramid_32 : decode cX7_pyramid 32 = .ok (.ldc2_w 134, 3) := by decide +kernel
theorem dX7_pyramid_35 : decode cX7_pyramid 35 = .ok (.invokestatic 72, 3) := by decide +kernel
theorem dX7_pyramid_38 : decode cX7_pyramid 38 = .ok (.ifCond .ne 7, 3) := by decide +kernel
theorem dX7_pyramid_41 : decode cX7_pyramid 41 = .ok (.ldc2_w 76, 3) := by decide +kernel
theorem dX7_pyramid_44 : decode cX7_pyramid 44 = .ok (.lreturn, 1) := by decide +kernel
theorem dX7_pyramid_45 : decode cX7_pyramid 45 = .ok (.lconst 0, 1) := by decide +kernel
theorem dX7_pyramid_46 : decode cX7_pyramid 46 = .ok (.lstore 4, 2) := by decide +kernel
theorem dX7_pyramid_48 : decode cX7_pyramid 48 = .ok (.iconst 0, 1) := by decide +kernel
theorem dX7_pyramid_49 : decode cX7_pyramid 49 = .ok (.istore 6, 2) := by decide +kernel
theorem dX7_pyramid_51 : decode cX7_pyramid 51 = .ok (.iload 6, 2) := by decide +kernel
theorem dX7_pyramid_53 : decode cX7_pyramid 53 = .ok (.iload_n 3, 1) := by decide +kernel
theorem dX7_pyramid_54 : decode cX7_pyramid 54 = .ok (.if_icmp .gt 71, 3) := by decide +kernel
theorem dX7_pyramid_57 : decode cX7_pyramid 57 = .ok (.iload_n 3, 1) := by decide +kernel
theorem dX7_pyramid_58 : decode cX7_pyramid 58 = .ok (.iload 6, 2) := by decide +kernel
theorem dX7_pyramid_60 : decode cX7_pyramid 60 = .ok (.isub, 1) := by decide +kernel
theorem dX7_pyramid_61 : decode cX7_pyramid 61 = .ok (.i2l, 1) := by decide +kernel
theorem dX7_pyramid_62 : decode cX7_pyramid 62 = .ok (.iload_n 1, 1) := by decide +kernel
theorem dX7_pyramid_63 : decode cX7_pyramid 63 = .ok (.i2l, 1) := by decide +kernel
theorem dX7_pyramid_64 : decode cX7_pyramid 64 = .ok (.lmul, 1) := by decide +kernel
theorem dX7_pyramid_65 : decode cX7_pyramid 65 = .ok (.iload_n 2, 1) := by decide +kernel
theorem dX7_pyramid_66 : decode cX7_pyramid 66 = .ok (.i2l, 1) := by decide +kernel
theorem dX7_pyramid_67 : decode cX7_pyramid 67 = .ok (.lmul, 1) := by decide +kernel
theorem dX7_pyramid_68 : decode cX7_pyramid 68 = .ok (.lstore 7, 2) := by decide +kernel
theorem dX7_pyramid_70 : decode cX7_pyramid 70 = .ok (.iconst 0, 1) := by decide +kernel
theorem dX7_pyramid_71 : decode cX7_pyramid 71 = .ok (.istore 9, 2) := by decide +kernel
theorem dX7_pyramid_73 : decode cX7_pyramid 73 = .ok (.iload 9, 2) := by decide +kernel
theorem dX7_pyramid_75 : decode cX7_pyramid 75 = .ok (.i2l, 1) := by decide +kernel
theorem dX7_pyramid_76 : decode cX7_pyramid 76 = .ok (.iload_n 2, 1) := by decide +kernel
theorem dX7_pyramid_77 : decode cX7_pyramid 77 = .ok (.i2l, 1) := by decide +kernel
theorem dX7_pyramid_78 : decode cX7_pyramid 78 = .ok (.lmul, 1) := by decide +kernel
theorem dX7_pyramid_79 : decode cX7_pyramid 79 = .ok (.iload_n 3, 1) := by decide +kernel
theorem dX7_pyramid_80 : decode cX7_pyramid 80 = .ok (.i2l, 1) := by decide +kernel
theorem dX7_pyramid_81 : decode cX7_pyramid 81 = .ok (.lmul, 1) := by decide +kernel
theorem dX7_pyramid_82 : decode cX7_pyramid 82 = .ok (.lload 7, 2) := by decide +kernel
theorem dX7_pyramid_84 : decode cX7_pyramid 84 = .ok (.lcmp, 1) := by decide +kernel
theorem dX7_pyramid_85 : decode cX7_pyramid 85 = .ok (.ifCond .gt 34, 3) := by decide +kernel
theorem dX7_pyramid_88 : decode cX7_pyramid 88 = .ok (.lload 4, 2) := by decide +kernel
theorem dX7_pyramid_90 : decode cX7_pyramid 90 = .ok (.lload 7, 2) := by decide +kernel
theorem dX7_pyramid_92 : decode cX7_pyramid 92 = .ok (.iload 9, 2) := by decide +kernel
theorem dX7_pyramid_94 : decode cX7_pyramid 94 = .ok (.i2l, 1) := by decide +kernel
theorem dX7_pyramid_95 : decode cX7_pyramid 95 = .ok (.iload_n 2, 1) := by decide +kernel
theorem dX7_pyramid_96 : decode cX7_pyramid 96 = .ok (.i2l, 1) := by decide +kernel
theorem dX7_pyramid_97 : decode cX7_pyramid 97 = .ok (.lmul, 1) := by decide +kernel
theorem dX7_pyramid_98 : decode cX7_pyramid 98 = .ok (.iload_n 3, 1) := by decide +kernel
theorem dX7_pyramid_99 : decode cX7_pyramid 99 = .ok (.i2l, 1) := by decide +kernel
theorem dX7_pyramid_100 : decode cX7_pyramid 100 = .ok (.lmul, 1) := by decide +kernel
theorem dX7_pyramid_101 : decode cX7_pyramid 101 = .ok (.lsub, 1) := by decide +kernel
theorem dX7_pyramid_102 : decode cX7_pyramid 102 = .ok (.iload_n 1, 1) := by decide +kernel
theorem dX7_pyramid_103 : decode cX7_pyramid 103 = .ok (.i2l, 1) := by decide +kernel
theorem dX7_pyramid_104 : decode cX7_pyramid 104 = .ok (.iload_n 3, 1) := by decide +kernel
theorem dX7_pyramid_105 : decode cX7_pyramid 105 = .ok (.i2l, 1) := by decide +kernel
theorem dX7_pyramid_106 : decode cX7_pyramid 106 = .ok (.lmul, 1) := by decide +kernel
theorem dX7_pyramid_107 : decode cX7_pyramid 107 = .ok (.ldiv, 1) := by decide +kernel
theorem dX7_pyramid_108 : decode cX7_pyramid 108 = .ok (.lconst 1, 1) := by decide +kernel
theorem dX7_pyramid_109 : decode cX7_pyramid 109 = .ok (.ladd, 1) := by decide +kernel
theorem dX7_pyramid_110 : decode cX7_pyramid 110 = .ok (.ladd, 1) := by decide +kernel
theorem dX7_pyramid_111 : decode cX7_pyramid 111 = .ok (.lstore 4, 2) := by decide +kernel
theorem dX7_pyramid_113 : decode cX7_pyramid 113 = .ok (.iinc 9 1, 3) := by decide +kernel
theorem dX7_pyramid_116 : decode cX7_pyramid 116 = .ok (.goto (-43), 3) := by decide +kernel
theorem dX7_pyramid_119 : decode cX7_pyramid 119 = .ok (.iinc 6 1, 3) := by decide +kernel
theorem dX7_pyramid_122 : decode cX7_pyramid 122 = .ok (.goto (-71), 3) := by decide +kernel
theorem dX7_pyramid_125 : decode cX7_pyramid 125 = .ok (.lload 4, 2) := by decide +kernel
theorem dX7_pyramid_127 : decode cX7_pyramid 127 = .ok (.lreturn, 1) := by decide +kernel
set_option maxRecDepth 20000 in
theorem ggX7_isEntry_X7_isIn : GoodIn wsX7_isEntry wsX7_isIn := goodIn_r _ [6] (by decide +kernel) (by decide +kernel)
set_option maxRecDepth 20000 in
theorem gX7_isEntry_X7_isIn : GoodIn wsX7_isEntry (va_wsS RX7 72 yX7_isIn wsX7_isIn) := goodIn_app (goodIn_of _ (by decide +kernel)) ggX7_isEntry_X7_isIn
