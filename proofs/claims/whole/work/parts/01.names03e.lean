theorem dX13_cutAll_302 : decode cX13_cutAll 302 = .ok (.iconst 0, 1) := by decide +kernel
theorem dX13_cutAll_303 : decode cX13_cutAll 303 = .ok (.putfield 192, 3) := by decide +kernel
theorem dX13_cutAll_306 : decode cX13_cutAll 306 = .ok (.return_, 1) := by decide +kernel
theorem dX13_wrong_0 : decode cX13_wrong 0 = .ok (.aload_n 0, 1) := by decide +kernel
theorem dX13_wrong_1 : decode cX13_wrong 1 = .ok (.getfield 192, 3) := by decide +kernel
theorem dX13_wrong_4 : decode cX13_wrong 4 = .ok (.ifCond .ne 21, 3) := by decide +kernel
theorem dX13_wrong_7 : decode cX13_wrong 7 = .ok (.aload_n 0, 1) := by decide +kernel
theorem dX13_wrong_8 : decode cX13_wrong 8 = .ok (.iload_n 1, 1) := by decide +kernel
theorem dX13_wrong_9 : decode cX13_wrong 9 = .ok (.bipush 16, 2) := by decide +kernel
theorem dX13_wrong_11 : decode cX13_wrong 11 = .ok (.aload_n 0, 1) := by decide +kernel
theorem dX13_wrong_12 : decode cX13_wrong 12 = .ok (.getfield 27, 3) := by decide +kernel
theorem dX13_wrong_15 : decode cX13_wrong 15 = .ok (.aload_n 0, 1) := by decide +kernel
theorem dX13_wrong_16 : decode cX13_wrong 16 = .ok (.getfield 189, 3) := by decide +kernel
theorem dX13_wrong_19 : decode cX13_wrong 19 = .ok (.iaload, 1) := by decide +kernel
theorem dX13_wrong_20 : decode cX13_wrong 20 = .ok (.imul, 1) := by decide +kernel
theorem dX13_wrong_21 : decode cX13_wrong 21 = .ok (.iadd, 1) := by decide +kernel
theorem dX13_wrong_22 : decode cX13_wrong 22 = .ok (.putfield 192, 3) := by decide +kernel
theorem dX13_wrong_25 : decode cX13_wrong 25 = .ok (.return_, 1) := by decide +kernel
theorem dX13_isSign_0 : decode cX13_isSign 0 = .ok (.aload_n 0, 1) := by decide +kernel
theorem dX13_isSign_1 : decode cX13_isSign 1 = .ok (.getfield 192, 3) := by decide +kernel
theorem dX13_isSign_4 : decode cX13_isSign 4 = .ok (.ifCond .ne 35, 3) := by decide +kernel
theorem dX13_isSign_7 : decode cX13_isSign 7 = .ok (.aload_n 0, 1) := by decide +kernel
theorem dX13_isSign_8 : decode cX13_isSign 8 = .ok (.getfield 24, 3) := by decide +kernel
theorem dX13_isSign_11 : decode cX13_isSign 11 = .ok (.aload_n 0, 1) := by decide +kernel
theorem dX13_isSign_12 : decode cX13_isSign 12 = .ok (.getfield 189, 3) := by decide +kernel
theorem dX13_isSign_15 : decode cX13_isSign 15 = .ok (.iaload, 1) := by decide +kernel
theorem dX13_isSign_16 : decode cX13_isSign 16 = .ok (.iconst 3, 1) := by decide +kernel
theorem dX13_isSign_17 : decode cX13_isSign 17 = .ok (.if_icmp .ne 22, 3) := by decide +kernel
theorem dX13_isSign_20 : decode cX13_isSign 20 = .ok (.aload_n 0, 1) := by decide +kernel
theorem dX13_isSign_21 : decode cX13_isSign 21 = .ok (.getfield 30, 3) := by decide +kernel
theorem dX13_isSign_24 : decode cX13_isSign 24 = .ok (.aload_n 0, 1) := by decide +kernel
theorem dX13_isSign_25 : decode cX13_isSign 25 = .ok (.getfield 189, 3) := by decide +kernel
theorem dX13_isSign_28 : decode cX13_isSign 28 = .ok (.laload, 1) := by decide +kernel
theorem dX13_isSign_29 : decode cX13_isSign 29 = .ok (.iload_n 1, 1) := by decide +kernel
theorem dX13_isSign_30 : decode cX13_isSign 30 = .ok (.i2l, 1) := by decide +kernel
theorem dX13_isSign_31 : decode cX13_isSign 31 = .ok (.lcmp, 1) := by decide +kernel
theorem dX13_isSign_32 : decode cX13_isSign 32 = .ok (.ifCond .ne 7, 3) := by decide +kernel
theorem dX13_isSign_35 : decode cX13_isSign 35 = .ok (.iconst 1, 1) := by decide +kernel
theorem dX13_isSign_36 : decode cX13_isSign 36 = .ok (.goto 4, 3) := by decide +kernel
theorem dX13_isSign_39 : decode cX13_isSign 39 = .ok (.iconst 0, 1) := by decide +kernel
theorem dX13_isSign_40 : decode cX13_isSign 40 = .ok (.ireturn, 1) := by decide +kernel
theorem dX13_isWord_0 : decode cX13_isWord 0 = .ok (.aload_n 0, 1) := by decide +kernel
theorem dX13_isWord_1 : decode cX13_isWord 1 = .ok (.getfield 192, 3) := by decide +kernel
theorem dX13_isWord_4 : decode cX13_isWord 4 = .ok (.ifCond .ne 39, 3) := by decide +kernel
theorem dX13_isWord_7 : decode cX13_isWord 7 = .ok (.aload_n 0, 1) := by decide +kernel
theorem dX13_isWord_8 : decode cX13_isWord 8 = .ok (.getfield 24, 3) := by decide +kernel
theorem dX13_isWord_11 : decode cX13_isWord 11 = .ok (.aload_n 0, 1) := by decide +kernel
theorem dX13_isWord_12 : decode cX13_isWord 12 = .ok (.getfield 189, 3) := by decide +kernel
theorem dX13_isWord_15 : decode cX13_isWord 15 = .ok (.iaload, 1) := by decide +kernel
theorem dX13_isWord_16 : decode cX13_isWord 16 = .ok (.iconst 1, 1) := by decide +kernel
theorem dX13_isWord_17 : decode cX13_isWord 17 = .ok (.if_icmp .ne 26, 3) := by decide +kernel
theorem dX13_isWord_20 : decode cX13_isWord 20 = .ok (.aload_n 0, 1) := by decide +kernel
theorem dX13_isWord_21 : decode cX13_isWord 21 = .ok (.getfield 30, 3) := by decide +kernel
theorem dX13_isWord_24 : decode cX13_isWord 24 = .ok (.aload_n 0, 1) := by decide +kernel
theorem dX13_isWord_25 : decode cX13_isWord 25 = .ok (.getfield 189, 3) := by decide +kernel
theorem dX13_isWord_28 : decode cX13_isWord 28 = .ok (.laload, 1) := by decide +kernel
theorem dX13_isWord_29 : decode cX13_isWord 29 = .ok (.aload_n 0, 1) := by decide +kernel
theorem dX13_isWord_30 : decode cX13_isWord 30 = .ok (.getfield 92, 3) := by decide +kernel
theorem dX13_isWord_33 : decode cX13_isWord 33 = .ok (.iload_n 1, 1) := by decide +kernel
theorem dX13_isWord_34 : decode cX13_isWord 34 = .ok (.laload, 1) := by decide +kernel
theorem dX13_isWord_35 : decode cX13_isWord 35 = .ok (.lcmp, 1) := by decide +kernel
theorem dX13_isWord_36 : decode cX13_isWord 36 = .ok (.ifCond .ne 7, 3) := by decide +kernel
theorem dX13_isWord_39 : decode cX13_isWord 39 = .ok (.iconst 1, 1) := by decide +kernel
theorem dX13_isWord_40 : decode cX13_isWord 40 = .ok (.goto 4, 3) := by decide +kernel
theorem dX13_isWord_43 : decode cX13_isWord 43 = .ok (.iconst 0, 1) := by decide +kernel
theorem dX13_isWord_44 : decode cX13_isWord 44 = .ok (.ireturn, 1) := by decide +kernel
set_option maxRecDepth 20000 in
theorem ggX13_takeSign_X13_isSign : GoodIn wsX13_takeSign wsX13_isSign := goodIn_r _ [6, 7, 8, 1, 9, 15, 16, 17, 18, 19, 20, 21, 22, 23, 24, 25, 26, 27, 28, 29, 30, 31, 32, 33, 34, 35, 36, 37, 38, 39, 40, 41, 42, 43, 44, 45, 46, 47, 48, 49, 50, 51, 52, 53, 54, 55] (by decide +kernel) (by decide +kernel)
set_option maxRecDepth 20000 in
theorem gX13_takeSign_X13_isSign : GoodIn wsX13_takeSign (wsV RX13 195 RX13 yX13_isSign wsX13_isSign) := goodIn_app (goodIn_of _ (by decide +kernel)) ggX13_takeSign_X13_isSign
set_option maxRecDepth 20000 in
theorem ggX13_takeSign_X13_wrong : GoodIn wsX13_takeSign wsX13_wrong := goodIn_r _ [13, 7, 14, 1, 15, 16, 17, 18, 19, 20, 21, 22, 23, 24, 25, 26, 27, 28, 29, 30, 31, 32, 33, 34, 35, 36, 37, 38, 39, 40, 41, 42, 43, 44, 45, 46, 47, 48, 49, 50, 51, 52, 53, 54, 55] (by decide +kernel) (by decide +kernel)
set_option maxRecDepth 20000 in
theorem gX13_takeSign_X13_wrong : GoodIn wsX13_takeSign (wsV RX13 198 RX13 yX13_wrong wsX13_wrong) := goodIn_app (goodIn_of _ (by decide +kernel)) ggX13_takeSign_X13_wrong
theorem dX13_takeSign_0 : decode cX13_takeSign 0 = .ok (.aload_n 0, 1) := by decide +kernel
theorem dX13_takeSign_1 : decode cX13_takeSign 1 = .ok (.iload_n 1, 1) := by decide +kernel
theorem dX13_takeSign_2 : decode cX13_takeSign 2 = .ok (.invokevirtual 195, 3) := by decide +kernel
theorem dX13_takeSign_5 : decode cX13_takeSign 5 = .ok (.ifCond .eq 16, 3) := by decide +kernel
theorem dX13_takeSign_8 : decode cX13_takeSign 8 = .ok (.aload_n 0, 1) := by decide +kernel
theorem dX13_takeSign_9 : decode cX13_takeSign 9 = .ok (.dup, 1) := by decide +kernel
theorem dX13_takeSign_10 : decode cX13_takeSign 10 = .ok (.getfield 189, 3) := by decide +kernel
theorem dX13_takeSign_13 : decode cX13_takeSign 13 = .ok (.iconst 1, 1) := by decide +kernel
theorem dX13_takeSign_14 : decode cX13_takeSign 14 = .ok (.iadd, 1) := by decide +kernel
theorem dX13_takeSign_15 : decode cX13_takeSign 15 = .ok (.putfield 189, 3) := by decide +kernel
theorem dX13_takeSign_18 : decode cX13_takeSign 18 = .ok (.goto 8, 3) := by decide +kernel
theorem dX13_takeSign_21 : decode cX13_takeSign 21 = .ok (.aload_n 0, 1) := by decide +kernel
theorem dX13_takeSign_22 : decode cX13_takeSign 22 = .ok (.iconst 1, 1) := by decide +kernel
theorem dX13_takeSign_23 : decode cX13_takeSign 23 = .ok (.invokevirtual 198, 3) := by decide +kernel
theorem dX13_takeSign_26 : decode cX13_takeSign 26 = .ok (.return_, 1) := by decide +kernel
set_option maxRecDepth 20000 in
theorem ggX13_hasSign_X13_isSign : GoodIn wsX13_hasSign wsX13_isSign := goodIn_r _ [6, 7, 8, 1, 9, 10, 11, 12, 13, 14, 15, 16, 17, 18, 19, 20, 21, 22, 23, 24, 25, 26, 27, 28, 29, 30, 31, 32, 33, 34, 35, 36, 37, 38, 39, 40, 41, 42, 43, 44, 45, 46, 47, 48, 49, 50] (by decide +kernel) (by decide +kernel)
set_option maxRecDepth 20000 in
theorem gX13_hasSign_X13_isSign : GoodIn wsX13_hasSign (wsV RX13 195 RX13 yX13_isSign wsX13_isSign) := goodIn_app (goodIn_of _ (by decide +kernel)) ggX13_hasSign_X13_isSign
theorem dX13_hasSign_0 : decode cX13_hasSign 0 = .ok (.aload_n 0, 1) := by decide +kernel
theorem dX13_hasSign_1 : decode cX13_hasSign 1 = .ok (.iload_n 1, 1) := by decide +kernel
theorem dX13_hasSign_2 : decode cX13_hasSign 2 = .ok (.invokevirtual 195, 3) := by decide +kernel
theorem dX13_hasSign_5 : decode cX13_hasSign 5 = .ok (.istore_n 2, 1) := by decide +kernel
theorem dX13_hasSign_6 : decode cX13_hasSign 6 = .ok (.aload_n 0, 1) := by decide +kernel
theorem dX13_hasSign_7 : decode cX13_hasSign 7 = .ok (.dup, 1) := by decide +kernel
theorem dX13_hasSign_8 : decode cX13_hasSign 8 = .ok (.getfield 189, 3) := by decide +kernel
theorem dX13_hasSign_11 : decode cX13_hasSign 11 = .ok (.iload_n 2, 1) := by decide +kernel
theorem dX13_hasSign_12 : decode cX13_hasSign 12 = .ok (.ifCond .eq 7, 3) := by decide +kernel
theorem dX13_hasSign_15 : decode cX13_hasSign 15 = .ok (.iconst 1, 1) := by decide +kernel
theorem dX13_hasSign_16 : decode cX13_hasSign 16 = .ok (.goto 4, 3) := by decide +kernel
theorem dX13_hasSign_19 : decode cX13_hasSign 19 = .ok (.iconst 0, 1) := by decide +kernel
theorem dX13_hasSign_20 : decode cX13_hasSign 20 = .ok (.iadd, 1) := by decide +kernel
theorem dX13_hasSign_21 : decode cX13_hasSign 21 = .ok (.putfield 189, 3) := by decide +kernel
theorem dX13_hasSign_24 : decode cX13_hasSign 24 = .ok (.iload_n 2, 1) := by decide +kernel
theorem dX13_hasSign_25 : decode cX13_hasSign 25 = .ok (.ireturn, 1) := by decide +kernel
set_option maxRecDepth 20000 in
theorem ggX13_hasWord_X13_isWord : GoodIn wsX13_hasWord wsX13_isWord := goodIn_r _ [6, 7, 8, 1, 9, 10, 11, 12, 13, 14, 15, 16, 17, 18, 19, 20, 21, 22, 23, 24, 25, 26, 27, 28, 29, 30, 31, 32, 33, 34, 35, 36, 37, 38, 39, 40, 41, 42, 43, 44, 45, 46, 47, 48, 49, 50, 51] (by decide +kernel) (by decide +kernel)
set_option maxRecDepth 20000 in
theorem gX13_hasWord_X13_isWord : GoodIn wsX13_hasWord (wsV RX13 201 RX13 yX13_isWord wsX13_isWord) := goodIn_app (goodIn_of _ (by decide +kernel)) ggX13_hasWord_X13_isWord
theorem dX13_hasWord_0 : decode cX13_hasWord 0 = .ok (.aload_n 0, 1) := by decide +kernel
theorem dX13_hasWord_1 : decode cX13_hasWord 1 = .ok (.iload_n 1, 1) := by decide +kernel
theorem dX13_hasWord_2 : decode cX13_hasWord 2 = .ok (.invokevirtual 201, 3) := by decide +kernel
theorem dX13_hasWord_5 : decode cX13_hasWord 5 = .ok (.istore_n 2, 1) := by decide +kernel
theorem dX13_hasWord_6 : decode cX13_hasWord 6 = .ok (.aload_n 0, 1) := by decide +kernel
theorem dX13_hasWord_7 : decode cX13_hasWord 7 = .ok (.dup, 1) := by decide +kernel
theorem dX13_hasWord_8 : decode cX13_hasWord 8 = .ok (.getfield 189, 3) := by decide +kernel
theorem dX13_hasWord_11 : decode cX13_hasWord 11 = .ok (.iload_n 2, 1) := by decide +kernel
theorem dX13_hasWord_12 : decode cX13_hasWord 12 = .ok (.ifCond .eq 7, 3) := by decide +kernel
theorem dX13_hasWord_15 : decode cX13_hasWord 15 = .ok (.iconst 1, 1) := by decide +kernel
theorem dX13_hasWord_16 : decode cX13_hasWord 16 = .ok (.goto 4, 3) := by decide +kernel
theorem dX13_hasWord_19 : decode cX13_hasWord 19 = .ok (.iconst 0, 1) := by decide +kernel
theorem dX13_hasWord_20 : decode cX13_hasWord 20 = .ok (.iadd, 1) := by decide +kernel
theorem dX13_hasWord_21 : decode cX13_hasWord 21 = .ok (.putfield 189, 3) := by decide +kernel
theorem dX13_hasWord_24 : decode cX13_hasWord 24 = .ok (.iload_n 2, 1) := by decide +kernel
theorem dX13_hasWord_25 : decode cX13_hasWord 25 = .ok (.ireturn, 1) := by decide +kernel
set_option maxRecDepth 20000 in
theorem ggX13_takeWord_X13_hasWord : GoodIn wsX13_takeWord wsX13_hasWord := goodIn_r _ [5, 6, 7, 8, 9, 4, 10, 11, 12, 13, 14, 20, 21, 22, 23, 24, 25, 26, 27, 28, 29, 30, 31, 32, 33, 34, 35, 36, 37, 38, 39, 40, 41, 42, 43, 44, 45, 46, 47, 48, 49, 50, 51, 52, 53, 54, 55, 56, 57, 58, 59, 60] (by decide +kernel) (by decide +kernel)
set_option maxRecDepth 20000 in
theorem gX13_takeWord_X13_hasWord : GoodIn wsX13_takeWord (wsV RX13 204 RX13 yX13_hasWord wsX13_hasWord) := goodIn_app (goodIn_of _ (by decide +kernel)) ggX13_takeWord_X13_hasWord
set_option maxRecDepth 20000 in
theorem ggX13_takeWord_X13_wrong : GoodIn wsX13_takeWord wsX13_wrong := goodIn_r _ [18, 11, 19, 6, 20, 21, 22, 23, 24, 25, 26, 27, 28, 29, 30, 31, 32, 33, 34, 35, 36, 37, 38, 39, 40, 41, 42, 43, 44, 45, 46, 47, 48, 49, 50, 51, 52, 53, 54, 55, 56, 57, 58, 59, 60] (by decide +kernel) (by decide +kernel)
set_option maxRecDepth 20000 in
theorem gX13_takeWord_X13_wrong : GoodIn wsX13_takeWord (wsV RX13 198 RX13 yX13_wrong wsX13_wrong) := goodIn_app (goodIn_of _ (by decide +kernel)) ggX13_takeWord_X13_wrong
theorem dX13_takeWord_0 : decode cX13_takeWord 0 = .ok (.aload_n 0, 1) := by decide +kernel
theorem dX13_takeWord_1 : decode cX13_takeWord 1 = .ok (.iload_n 1, 1) := by decide +kernel
theorem dX13_takeWord_2 : decode cX13_takeWord 2 = .ok (.invokevirtual 204, 3) := by decide +kernel
theorem dX13_takeWord_5 : decode cX13_takeWord 5 = .ok (.ifCond .ne 8, 3) := by decide +kernel
theorem dX13_takeWord_8 : decode cX13_takeWord 8 = .ok (.aload_n 0, 1) := by decide +kernel
theorem dX13_takeWord_9 : decode cX13_takeWord 9 = .ok (.iconst 1, 1) := by decide +kernel
theorem dX13_takeWord_10 : decode cX13_takeWord 10 = .ok (.invokevirtual 198, 3) := by decide +kernel
theorem dX13_takeWord_13 : decode cX13_takeWord 13 = .ok (.return_, 1) := by decide +kernel
theorem dX13_within_0 : decode cX13_within 0 = .ok (.iload_n 0, 1) := by decide +kernel
theorem dX13_within_1 : decode cX13_within 1 = .ok (.iload_n 1, 1) := by decide +kernel
theorem dX13_within_2 : decode cX13_within 2 = .ok (.if_icmp .lt 12, 3) := by decide +kernel
theorem dX13_within_5 : decode cX13_within 5 = .ok (.iload_n 0, 1) := by decide +kernel
theorem dX13_within_6 : decode cX13_within 6 = .ok (.iload_n 2, 1) := by decide +kernel
theorem dX13_within_7 : decode cX13_within 7 = .ok (.if_icmp .gt 7, 3) := by decide +kernel
theorem dX13_within_10 : decode cX13_within 10 = .ok (.iconst 1, 1) := by decide +kernel
theorem dX13_within_11 : decode cX13_within 11 = .ok (.goto 4, 3) := by decide +kernel
theorem dX13_within_14 : decode cX13_within 14 = .ok (.iconst 0, 1) := by decide +kernel
theorem dX13_within_15 : decode cX13_within 15 = .ok (.ireturn, 1) := by decide +kernel
theorem dX13_standsAsAlways_0 : decode cX13_standsAsAlways 0 = .ok (.iconst 0, 1) := by decide +kernel
theorem dX13_standsAsAlways_1 : decode cX13_standsAsAlways 1 = .ok (.istore_n 2, 1) := by decide +kernel
theorem dX13_standsAsAlways_2 : decode cX13_standsAsAlways 2 = .ok (.iload_n 2, 1) := by decide +kernel
theorem dX13_standsAsAlways_3 : decode cX13_standsAsAlways 3 = .ok (.bipush 70, 2) := by decide +kernel
theorem dX13_standsAsAlways_5 : decode cX13_standsAsAlways 5 = .ok (.if_icmp .ge 18, 3) := by decide +kernel
theorem dX13_standsAsAlways_8 : decode cX13_standsAsAlways 8 = .ok (.aload_n 0, 1) := by decide +kernel
theorem dX13_standsAsAlways_9 : decode cX13_standsAsAlways 9 = .ok (.getfield 95, 3) := by decide +kernel
theorem dX13_standsAsAlways_12 : decode cX13_standsAsAlways 12 = .ok (.iload_n 1, 1) := by decide +kernel
theorem dX13_standsAsAlways_13 : decode cX13_standsAsAlways 13 = .ok (.iload_n 2, 1) := by decide +kernel
theorem dX13_standsAsAlways_14 : decode cX13_standsAsAlways 14 = .ok (.iadd, 1) := by decide +kernel
theorem dX13_standsAsAlways_15 : decode cX13_standsAsAlways 15 = .ok (.iconst 0, 1) := by decide +kernel
theorem dX13_standsAsAlways_16 : decode cX13_standsAsAlways 16 = .ok (.iastore, 1) := by decide +kernel
theorem dX13_standsAsAlways_17 : decode cX13_standsAsAlways 17 = .ok (.iinc 2 1, 3) := by decide +kernel
theorem dX13_standsAsAlways_20 : decode cX13_standsAsAlways 20 = .ok (.goto (-18), 3) := by decide +kernel
theorem dX13_standsAsAlways_23 : decode cX13_standsAsAlways 23 = .ok (.aload_n 0, 1) := by decide +kernel
theorem dX13_standsAsAlways_24 : decode cX13_standsAsAlways 24 = .ok (.getfield 95, 3) := by decide +kernel
theorem dX13_standsAsAlways_27 : decode cX13_standsAsAlways 27 = .ok (.iload_n 1, 1) := by decide +kernel
theorem dX13_standsAsAlways_28 : decode cX13_standsAsAlways 28 = .ok (.iconst 3, 1) := by decide +kernel
theorem dX13_standsAsAlways_29 : decode cX13_standsAsAlways 29 = .ok (.iadd, 1) := by decide +kernel
theorem dX13_standsAsAlways_30 : decode cX13_standsAsAlways 30 = .ok (.iconst 1, 1) := by decide +kernel
theorem dX13_standsAsAlways_31 : decode cX13_standsAsAlways 31 = .ok (.iastore, 1) := by decide +kernel
theorem dX13_standsAsAlways_32 : decode cX13_standsAsAlways 32 = .ok (.aload_n 0, 1) := by decide +kernel
theorem dX13_standsAsAlways_33 : decode cX13_standsAsAlways 33 = .ok (.getfield 95, 3) := by decide +kernel
theorem dX13_standsAsAlways_36 : decode cX13_standsAsAlways 36 = .ok (.iload_n 1, 1) := by decide +kernel
theorem dX13_standsAsAlways_37 : decode cX13_standsAsAlways 37 = .ok (.iconst 4, 1) := by decide +kernel
theorem dX13_standsAsAlways_38 : decode cX13_standsAsAlways 38 = .ok (.iadd, 1) := by decide +kernel
theorem dX13_standsAsAlways_39 : decode cX13_standsAsAlways 39 = .ok (.iconst (-1), 1) := by decide +kernel
theorem dX13_standsAsAlways_40 : decode cX13_standsAsAlways 40 = .ok (.iastore, 1) := by decide +kernel
theorem dX13_standsAsAlways_41 : decode cX13_standsAsAlways 41 = .ok (.aload_n 0, 1) := by decide +kernel
theorem dX13_standsAsAlways_42 : decode cX13_standsAsAlways 42 = .ok (.getfield 95, 3) := by decide +kernel
theorem dX13_standsAsAlways_45 : decode cX13_standsAsAlways 45 = .ok (.iload_n 1, 1) := by decide +kernel
theorem dX13_standsAsAlways_46 : decode cX13_standsAsAlways 46 = .ok (.iconst 4, 1) := by decide +kernel
theorem dX13_standsAsAlways_47 : decode cX13_standsAsAlways 47 = .ok (.iadd, 1) := by decide +kernel
theorem dX13_standsAsAlways_48 : decode cX13_standsAsAlways 48 = .ok (.iconst 1, 1) := by decide +kernel
theorem dX13_standsAsAlways_49 : decode cX13_standsAsAlways 49 = .ok (.iadd, 1) := by decide +kernel
theorem dX13_standsAsAlways_50 : decode cX13_standsAsAlways 50 = .ok (.iconst (-1), 1) := by decide +kernel
theorem dX13_standsAsAlways_51 : decode cX13_standsAsAlways 51 = .ok (.iastore, 1) := by decide +kernel
theorem dX13_standsAsAlways_52 : decode cX13_standsAsAlways 52 = .ok (.aload_n 0, 1) := by decide +kernel
theorem dX13_standsAsAlways_53 : decode cX13_standsAsAlways 53 = .ok (.getfield 95, 3) := by decide +kernel
theorem dX13_standsAsAlways_56 : decode cX13_standsAsAlways 56 = .ok (.iload_n 1, 1) := by decide +kernel
theorem dX13_standsAsAlways_57 : decode cX13_standsAsAlways 57 = .ok (.bipush 30, 2) := by decide +kernel
theorem dX13_standsAsAlways_59 : decode cX13_standsAsAlways 59 = .ok (.iadd, 1) := by decide +kernel
theorem dX13_standsAsAlways_60 : decode cX13_standsAsAlways 60 = .ok (.iconst (-1), 1) := by decide +kernel
theorem dX13_standsAsAlways_61 : decode cX13_standsAsAlways 61 = .ok (.iastore, 1) := by decide +kernel
theorem dX13_standsAsAlways_62 : decode cX13_standsAsAlways 62 = .ok (.aload_n 0, 1) := by decide +kernel
theorem dX13_standsAsAlways_63 : decode cX13_standsAsAlways 63 = .ok (.getfield 95, 3) := by decide +kernel
theorem dX13_standsAsAlways_66 : decode cX13_standsAsAlways 66 = .ok (.iload_n 1, 1) := by decide +kernel
theorem dX13_standsAsAlways_67 : decode cX13_standsAsAlways 67 = .ok (.bipush 30, 2) := by decide +kernel
theorem dX13_standsAsAlways_69 : decode cX13_standsAsAlways 69 = .ok (.iadd, 1) := by decide +kernel
theorem dX13_standsAsAlways_70 : decode cX13_standsAsAlways 70 = .ok (.iconst 3, 1) := by decide +kernel
theorem dX13_standsAsAlways_71 : decode cX13_standsAsAlways 71 = .ok (.iadd, 1) := by decide +kernel
theorem dX13_standsAsAlways_72 : decode cX13_standsAsAlways 72 = .ok (.iconst 5, 1) := by decide +kernel
theorem dX13_standsAsAlways_73 : decode cX13_standsAsAlways 73 = .ok (.iastore, 1) := by decide +kernel
theorem dX13_standsAsAlways_74 : decode cX13_standsAsAlways 74 = .ok (.return_, 1) := by decide +kernel
set_option maxRecDepth 20000 in
theorem ggX13_takeNumber_X13_wrong : GoodIn wsX13_takeNumber wsX13_wrong := goodIn_r _ [9, 1, 10, 3, 11, 12, 13, 14, 15, 16, 17, 18, 19, 20, 21, 22, 23, 24, 25, 26, 27, 28, 29, 30, 31, 32, 33, 34, 35, 36, 37, 38, 39, 40, 41, 42, 43, 44, 45, 46, 47, 48, 49, 50, 51] (by decide +kernel) (by decide +kernel)
set_option maxRecDepth 20000 in
theorem gX13_takeNumber_X13_wrong : GoodIn wsX13_takeNumber (wsV RX13 198 RX13 yX13_wrong wsX13_wrong) := goodIn_app (goodIn_of _ (by decide +kernel)) ggX13_takeNumber_X13_wrong
theorem dX13_takeNumber_0 : decode cX13_takeNumber 0 = .ok (.aload_n 0, 1) := by decide +kernel
theorem dX13_takeNumber_1 : decode cX13_takeNumber 1 = .ok (.getfield 192, 3) := by decide +kernel
theorem dX13_takeNumber_4 : decode cX13_takeNumber 4 = .ok (.ifCond .ne 24, 3) := by decide +kernel
theorem dX13_takeNumber_7 : decode cX13_takeNumber 7 = .ok (.aload_n 0, 1) := by decide +kernel
theorem dX13_takeNumber_8 : decode cX13_takeNumber 8 = .ok (.getfield 24, 3) := by decide +kernel
theorem dX13_takeNumber_11 : decode cX13_takeNumber 11 = .ok (.aload_n 0, 1) := by decide +kernel
theorem dX13_takeNumber_12 : decode cX13_takeNumber 12 = .ok (.getfield 189, 3) := by decide +kernel
theorem dX13_takeNumber_15 : decode cX13_takeNumber 15 = .ok (.iaload, 1) := by decide +kernel
theorem dX13_takeNumber_16 : decode cX13_takeNumber 16 = .ok (.iconst 2, 1) := by decide +kernel
theorem dX13_takeNumber_17 : decode cX13_takeNumber 17 = .ok (.if_icmp .eq 11, 3) := by decide +kernel
theorem dX13_takeNumber_20 : decode cX13_takeNumber 20 = .ok (.aload_n 0, 1) := by decide +kernel
theorem dX13_takeNumber_21 : decode cX13_takeNumber 21 = .ok (.iconst 1, 1) := by decide +kernel
theorem dX13_takeNumber_22 : decode cX13_takeNumber 22 = .ok (.invokevirtual 198, 3) := by decide +kernel
theorem dX13_takeNumber_25 : decode cX13_takeNumber 25 = .ok (.goto 45, 3) := by decide +kernel
theorem dX13_takeNumber_28 : decode cX13_takeNumber 28 = .ok (.aload_n 0, 1) := by decide +kernel
theorem dX13_takeNumber_29 : decode cX13_takeNumber 29 = .ok (.getfield 192, 3) := by decide +kernel
theorem dX13_takeNumber_32 : decode cX13_takeNumber 32 = .ok (.ifCond .ne 38, 3) := by decide +kernel
theorem dX13_takeNumber_35 : decode cX13_takeNumber 35 = .ok (.aload_n 0, 1) := by decide +kernel
theorem dX13_takeNumber_36 : decode cX13_takeNumber 36 = .ok (.getfield 30, 3) := by decide +kernel
theorem dX13_takeNumber_39 : decode cX13_takeNumber 39 = .ok (.aload_n 0, 1) := by decide +kernel
theorem dX13_takeNumber_40 : decode cX13_takeNumber 40 = .ok (.getfield 189, 3) := by decide +kernel
theorem dX13_takeNumber_43 : decode cX13_takeNumber 43 = .ok (.laload, 1) := by decide +kernel
theorem dX13_takeNumber_44 : decode cX13_takeNumber 44 = .ok (.iload_n 1, 1) := by decide +kernel
theorem dX13_takeNumber_45 : decode cX13_takeNumber 45 = .ok (.i2l, 1) := by decide +kernel
theorem dX13_takeNumber_46 : decode cX13_takeNumber 46 = .ok (.lcmp, 1) := by decide +kernel
theorem dX13_takeNumber_47 : decode cX13_takeNumber 47 = .ok (.ifCond .lt 18, 3) := by decide +kernel
theorem dX13_takeNumber_50 : decode cX13_takeNumber 50 = .ok (.aload_n 0, 1) := by decide +kernel
theorem dX13_takeNumber_51 : decode cX13_takeNumber 51 = .ok (.getfield 30, 3) := by decide +kernel
theorem dX13_takeNumber_54 : decode cX13_takeNumber 54 = .ok (.aload_n 0, 1) := by decide +kernel
theorem dX13_takeNumber_55 : decode cX13_takeNumber 55 = .ok (.getfield 189, 3) := by decide +kernel
theorem dX13_takeNumber_58 : decode cX13_takeNumber 58 = .ok (.laload, 1) := by decide +kernel
theorem dX13_takeNumber_59 : decode cX13_takeNumber 59 = .ok (.iload_n 2, 1) := by decide +kernel
theorem dX13_takeNumber_60 : decode cX13_takeNumber 60 = .ok (.i2l, 1) := by decide +kernel
theorem dX13_takeNumber_61 : decode cX13_takeNumber 61 = .ok (.lcmp, 1) := by decide +kernel
theorem dX13_takeNumber_62 : decode cX13_takeNumber 62 = .ok (.ifCond .le 8, 3) := by decide +kernel
theorem dX13_takeNumber_65 : decode cX13_takeNumber 65 = .ok (.aload_n 0, 1) := by decide +kernel
theorem dX13_takeNumber_66 : decode cX13_takeNumber 66 = .ok (.iconst 4, 1) := by decide +kernel
theorem dX13_takeNumber_67 : decode cX13_takeNumber 67 = .ok (.invokevirtual 198, 3) := by decide +kernel
theorem dX13_takeNumber_70 : decode cX13_takeNumber 70 = .ok (.aload_n 0, 1) := by decide +kernel
theorem dX13_takeNumber_71 : decode cX13_takeNumber 71 = .ok (.getfield 192, 3) := by decide +kernel
theorem dX13_takeNumber_74 : decode cX13_takeNumber 74 = .ok (.ifCond .le 5, 3) := by decide +kernel
theorem dX13_takeNumber_77 : decode cX13_takeNumber 77 = .ok (.iconst 0, 1) := by decide +kernel
theorem dX13_takeNumber_78 : decode cX13_takeNumber 78 = .ok (.ireturn, 1) := by decide +kernel
theorem dX13_takeNumber_79 : decode cX13_takeNumber 79 = .ok (.aload_n 0, 1) := by decide +kernel
theorem dX13_takeNumber_80 : decode cX13_takeNumber 80 = .ok (.dup, 1) := by decide +kernel
theorem dX13_takeNumber_81 : decode cX13_takeNumber 81 = .ok (.getfield 189, 3) := by decide +kernel
theorem dX13_takeNumber_84 : decode cX13_takeNumber 84 = .ok (.iconst 1, 1) := by decide +kernel
theorem dX13_takeNumber_85 : decode cX13_takeNumber 85 = .ok (.iadd, 1) := by decide +kernel
theorem dX13_takeNumber_86 : decode cX13_takeNumber 86 = .ok (.putfield 189, 3) := by decide +kernel
theorem dX13_takeNumber_89 : decode cX13_takeNumber 89 = .ok (.aload_n 0, 1) := by decide +kernel
theorem dX13_takeNumber_90 : decode cX13_takeNumber 90 = .ok (.getfield 30, 3) := by decide +kernel
theorem dX13_takeNumber_93 : decode cX13_takeNumber 93 = .ok (.aload_n 0, 1) := by decide +kernel
theorem dX13_takeNumber_94 : decode cX13_takeNumber 94 = .ok (.getfield 189, 3) := by decide +kernel
theorem dX13_takeNumber_97 : decode cX13_takeNumber 97 = .ok (.iconst 1, 1) := by decide +kernel
theorem dX13_takeNumber_98 : decode cX13_takeNumber 98 = .ok (.isub, 1) := by decide +kernel
theorem dX13_takeNumber_99 : decode cX13_takeNumber 99 = .ok (.laload, 1) := by decide +kernel
theorem dX13_takeNumber_100 : decode cX13_takeNumber 100 = .ok (.l2i, 1) := by decide +kernel
theorem dX13_takeNumber_101 : decode cX13_takeNumber 101 = .ok (.ireturn, 1) := by decide +kernel
set_option maxRecDepth 20000 in
theorem ggX13_takeAfter_X13_takeWord : GoodIn wsX13_takeAfter wsX13_takeWord := goodIn_r _ [5, 6, 7, 8, 4, 9, 10, 11, 12, 13, 14, 15, 16, 17, 18, 19, 20, 21, 22, 23, 28, 29, 30, 31, 32, 33, 34, 35, 36, 37, 38, 39, 40, 41, 42, 43, 44, 45, 46, 47, 48, 49, 50, 51, 52, 53, 54, 55, 56, 57, 58, 59, 60, 61, 62, 63, 64, 65, 66, 67, 68] (by decide +kernel) (by decide +kernel)
set_option maxRecDepth 20000 in
theorem gX13_takeAfter_X13_takeWord : GoodIn wsX13_takeAfter (wsV RX13 207 RX13 yX13_takeWord wsX13_takeWord) := goodIn_app (goodIn_of _ (by decide +kernel)) ggX13_takeAfter_X13_takeWord
set_option maxRecDepth 20000 in
theorem ggX13_takeAfter_X13_takeNumber : GoodIn wsX13_takeAfter wsX13_takeNumber := goodIn_r _ [27, 15, 16, 10, 17, 19, 20, 21, 4, 22, 23, 28, 29, 30, 31, 32, 33, 34, 35, 36, 37, 38, 39, 40, 41, 42, 43, 44, 45, 46, 47, 48, 49, 50, 51, 52, 53, 54, 55, 56, 57, 58, 59, 60, 61, 62, 63, 64, 65, 66, 67, 68] (by decide +kernel) (by decide +kernel)
set_option maxRecDepth 20000 in
theorem gX13_takeAfter_X13_takeNumber : GoodIn wsX13_takeAfter (wsV RX13 210 RX13 yX13_takeNumber wsX13_takeNumber) := goodIn_app (goodIn_of _ (by decide +kernel)) ggX13_takeAfter_X13_takeNumber
theorem dX13_takeAfter_0 : decode cX13_takeAfter 0 = .ok (.aload_n 0, 1) := by decide +kernel
theorem dX13_takeAfter_1 : decode cX13_takeAfter 1 = .ok (.iload_n 1, 1) := by decide +kernel
theorem dX13_takeAfter_2 : decode cX13_takeAfter 2 = .ok (.invokevirtual 207, 3) := by decide +kernel
theorem dX13_takeAfter_5 : decode cX13_takeAfter 5 = .ok (.aload_n 0, 1) := by decide +kernel
theorem dX13_takeAfter_6 : decode cX13_takeAfter 6 = .ok (.iload_n 2, 1) := by decide +kernel
theorem dX13_takeAfter_7 : decode cX13_takeAfter 7 = .ok (.iload_n 3, 1) := by decide +kernel
theorem dX13_takeAfter_8 : decode cX13_takeAfter 8 = .ok (.invokevirtual 210, 3) := by decide +kernel
theorem dX13_takeAfter_11 : decode cX13_takeAfter 11 = .ok (.ireturn, 1) := by decide +kernel
set_option maxRecDepth 20000 in
theorem ggX13_wordHere_X13_isWord : GoodIn wsX13_wordHere wsX13_isWord := goodIn_r _ [5, 6, 7, 8, 9, 10, 11, 12, 13, 14, 15, 16, 17, 18, 19, 20, 21, 22, 23, 24, 25, 26, 27, 28, 29, 30, 31, 32, 33, 34, 35, 36, 37, 38, 39, 40, 41, 42, 43, 44, 45, 46, 47, 48, 49, 50, 51] (by decide +kernel) (by decide +kernel)
set_option maxRecDepth 20000 in
theorem gX13_wordHere_X13_isWord : GoodIn wsX13_wordHere (wsV RX13 201 RX13 yX13_isWord wsX13_isWord) := goodIn_app (goodIn_of _ (by decide +kernel)) ggX13_wordHere_X13_isWord
theorem dX13_wordHere_0 : decode cX13_wordHere 0 = .ok (.iconst (-1), 1) := by decide +kernel
theorem dX13_wordHere_1 : decode cX13_wordHere 1 = .ok (.istore_n 3, 1) := by decide +kernel
theorem dX13_wordHere_2 : decode cX13_wordHere 2 = .ok (.iconst 0, 1) := by decide +kernel
theorem dX13_wordHere_3 : decode cX13_wordHere 3 = .ok (.istore 4, 2) := by decide +kernel
theorem dX13_wordHere_5 : decode cX13_wordHere 5 = .ok (.iload 4, 2) := by decide +kernel
theorem dX13_wordHere_7 : decode cX13_wordHere 7 = .ok (.iload_n 2, 1) := by decide +kernel
theorem dX13_wordHere_8 : decode cX13_wordHere 8 = .ok (.if_icmp .ge 27, 3) := by decide +kernel
theorem dX13_wordHere_11 : decode cX13_wordHere 11 = .ok (.aload_n 0, 1) := by decide +kernel
theorem dX13_wordHere_12 : decode cX13_wordHere 12 = .ok (.iload_n 1, 1) := by decide +kernel
theorem dX13_wordHere_13 : decode cX13_wordHere 13 = .ok (.iload 4, 2) := by decide +kernel
theorem dX13_wordHere_15 : decode cX13_wordHere 15 = .ok (.iadd, 1) := by decide +kernel
theorem dX13_wordHere_16 : decode cX13_wordHere 16 = .ok (.invokevirtual 201, 3) := by decide +kernel
theorem dX13_wordHere_19 : decode cX13_wordHere 19 = .ok (.ifCond .eq 8, 3) := by decide +kernel
theorem dX13_wordHere_22 : decode cX13_wordHere 22 = .ok (.iload 4, 2) := by decide +kernel
theorem dX13_wordHere_24 : decode cX13_wordHere 24 = .ok (.goto 4, 3) := by decide +kernel
theorem dX13_wordHere_27 : decode cX13_wordHere 27 = .ok (.iload_n 3, 1) := by decide +kernel
theorem dX13_wordHere_28 : decode cX13_wordHere 28 = .ok (.istore_n 3, 1) := by decide +kernel
theorem dX13_wordHere_29 : decode cX13_wordHere 29 = .ok (.iinc 4 1, 3) := by decide +kernel
theorem dX13_wordHere_32 : decode cX13_wordHere 32 = .ok (.goto (-27), 3) := by decide +kernel
theorem dX13_wordHere_35 : decode cX13_wordHere 35 = .ok (.iload_n 3, 1) := by decide +kernel
theorem dX13_wordHere_36 : decode cX13_wordHere 36 = .ok (.ireturn, 1) := by decide +kernel
set_option maxRecDepth 20000 in
theorem ggX13_takeOne_X13_wordHere : GoodIn wsX13_takeOne wsX13_wordHere := goodIn_r _ [7, 8, 9, 10, 6, 11, 1, 12, 2, 13, 14, 20, 21, 22, 23, 24, 25, 26, 27, 28, 29, 30, 31, 32, 33, 34, 35, 36, 37, 38, 39, 40, 41, 42, 43, 44, 45, 46, 47, 48, 49, 50, 51, 52, 53, 54, 55, 56, 57, 58, 59, 60] (by decide +kernel) (by decide +kernel)
set_option maxRecDepth 20000 in
theorem gX13_takeOne_X13_wordHere : GoodIn wsX13_takeOne (wsV RX13 214 RX13 yX13_wordHere wsX13_wordHere) := goodIn_app (goodIn_of _ (by decide +kernel)) ggX13_takeOne_X13_wordHere
set_option maxRecDepth 20000 in
theorem ggX13_takeOne_X13_wrong : GoodIn wsX13_takeOne wsX13_wrong := goodIn_r _ [18, 1, 19, 2, 20, 21, 22, 23, 24, 25, 26, 27, 28, 29, 30, 31, 32, 33, 34, 35, 36, 37, 38, 39, 40, 41, 42, 43, 44, 45, 46, 47, 48, 49, 50, 51, 52, 53, 54, 55, 56, 57, 58, 59, 60] (by decide +kernel) (by decide +kernel)
set_option maxRecDepth 20000 in
theorem gX13_takeOne_X13_wrong : GoodIn wsX13_takeOne (wsV RX13 198 RX13 yX13_wrong wsX13_wrong) := goodIn_app (goodIn_of _ (by decide +kernel)) ggX13_takeOne_X13_wrong
theorem dX13_takeOne_0 : decode cX13_takeOne 0 = .ok (.aload_n 0, 1) := by decide +kernel
theorem dX13_takeOne_1 : decode cX13_takeOne 1 = .ok (.getfield 192, 3) := by decide +kernel
theorem dX13_takeOne_4 : decode cX13_takeOne 4 = .ok (.ifCond .le 7, 3) := by decide +kernel
theorem dX13_takeOne_7 : decode cX13_takeOne 7 = .ok (.iconst (-1), 1) := by decide +kernel
theorem dX13_takeOne_8 : decode cX13_takeOne 8 = .ok (.goto 9, 3) := by decide +kernel
theorem dX13_takeOne_11 : decode cX13_takeOne 11 = .ok (.aload_n 0, 1) := by decide +kernel
theorem dX13_takeOne_12 : decode cX13_takeOne 12 = .ok (.iload_n 1, 1) := by decide +kernel
theorem dX13_takeOne_13 : decode cX13_takeOne 13 = .ok (.iload_n 2, 1) := by decide +kernel
theorem dX13_takeOne_14 : decode cX13_takeOne 14 = .ok (.invokevirtual 214, 3) := by decide +kernel
theorem dX13_takeOne_17 : decode cX13_takeOne 17 = .ok (.istore_n 3, 1) := by decide +kernel
theorem dX13_takeOne_18 : decode cX13_takeOne 18 = .ok (.aload_n 0, 1) := by decide +kernel
theorem dX13_takeOne_19 : decode cX13_takeOne 19 = .ok (.getfield 192, 3) := by decide +kernel
theorem dX13_takeOne_22 : decode cX13_takeOne 22 = .ok (.ifCond .ne 12, 3) := by decide +kernel
theorem dX13_takeOne_25 : decode cX13_takeOne 25 = .ok (.iload_n 3, 1) := by decide +kernel
theorem dX13_takeOne_26 : decode cX13_takeOne 26 = .ok (.ifCond .ge 8, 3) := by decide +kernel
theorem dX13_takeOne_29 : decode cX13_takeOne 29 = .ok (.aload_n 0, 1) := by decide +kernel
theorem dX13_takeOne_30 : decode cX13_takeOne 30 = .ok (.iconst 1, 1) := by decide +kernel
theorem dX13_takeOne_31 : decode cX13_takeOne 31 = .ok (.invokevirtual 198, 3) := by decide +kernel
theorem dX13_takeOne_34 : decode cX13_takeOne 34 = .ok (.aload_n 0, 1) := by decide +kernel
theorem dX13_takeOne_35 : decode cX13_takeOne 35 = .ok (.dup, 1) := by decide +kernel
theorem dX13_takeOne_36 : decode cX13_takeOne 36 = .ok (.getfield 189, 3) := by decide +kernel
theorem dX13_takeOne_39 : decode cX13_takeOne 39 = .ok (.aload_n 0, 1) := by decide +kernel
theorem dX13_takeOne_40 : decode cX13_takeOne 40 = .ok (.getfield 192, 3) := by decide +kernel
theorem dX13_takeOne_43 : decode cX13_takeOne 43 = .ok (.ifCond .le 7, 3) := by decide +kernel
theorem dX13_takeOne_46 : decode cX13_takeOne 46 = .ok (.iconst 0, 1) := by decide +kernel
theorem dX13_takeOne_47 : decode cX13_takeOne 47 = .ok (.goto 4, 3) := by decide +kernel
theorem dX13_takeOne_50 : decode cX13_takeOne 50 = .ok (.iconst 1, 1) := by decide +kernel
theorem dX13_takeOne_51 : decode cX13_takeOne 51 = .ok (.iadd, 1) := by decide +kernel
theorem dX13_takeOne_52 : decode cX13_takeOne 52 = .ok (.putfield 189, 3) := by decide +kernel
theorem dX13_takeOne_55 : decode cX13_takeOne 55 = .ok (.aload_n 0, 1) := by decide +kernel
theorem dX13_takeOne_56 : decode cX13_takeOne 56 = .ok (.getfield 192, 3) := by decide +kernel
theorem dX13_takeOne_59 : decode cX13_takeOne 59 = .ok (.ifCond .le 7, 3) := by decide +kernel
theorem dX13_takeOne_62 : decode cX13_takeOne 62 = .ok (.iconst 0, 1) := by decide +kernel
theorem dX13_takeOne_63 : decode cX13_takeOne 63 = .ok (.goto 4, 3) := by decide +kernel
theorem dX13_takeOne_66 : decode cX13_takeOne 66 = .ok (.iload_n 3, 1) := by decide +kernel
theorem dX13_takeOne_67 : decode cX13_takeOne 67 = .ok (.ireturn, 1) := by decide +kernel
set_option maxRecDepth 20000 in
theorem ggX13_isName_X13_wordHere : GoodIn wsX13_isName wsX13_wordHere := goodIn_r _ [8, 9, 10, 11, 7, 12, 1, 2, 3, 13, 14, 15, 16, 17, 18, 19, 20, 21, 22, 23, 24, 25, 26, 27, 28, 29, 30, 31, 32, 33, 34, 35, 36, 37, 38, 39, 40, 41, 42, 43, 44, 45, 46, 47, 48, 49, 50, 51, 52, 53, 54, 55] (by decide +kernel) (by decide +kernel)
set_option maxRecDepth 20000 in
theorem gX13_isName_X13_wordHere : GoodIn wsX13_isName (wsV RX13 214 RX13 yX13_wordHere wsX13_wordHere) := goodIn_app (goodIn_of _ (by decide +kernel)) ggX13_isName_X13_wordHere
theorem dX13_isName_0 : decode cX13_isName 0 = .ok (.aload_n 0, 1) := by decide +kernel
theorem dX13_isName_1 : decode cX13_isName 1 = .ok (.getfield 192, 3) := by decide +kernel
theorem dX13_isName_4 : decode cX13_isName 4 = .ok (.ifCond .ne 30, 3) := by decide +kernel
theorem dX13_isName_7 : decode cX13_isName 7 = .ok (.aload_n 0, 1) := by decide +kernel
theorem dX13_isName_8 : decode cX13_isName 8 = .ok (.getfield 24, 3) := by decide +kernel
theorem dX13_isName_11 : decode cX13_isName 11 = .ok (.aload_n 0, 1) := by decide +kernel
theorem dX13_isName_12 : decode cX13_isName 12 = .ok (.getfield 189, 3) := by decide +kernel
theorem dX13_isName_15 : decode cX13_isName 15 = .ok (.iaload, 1) := by decide +kernel
theorem dX13_isName_16 : decode cX13_isName 16 = .ok (.iconst 1, 1) := by decide +kernel
theorem dX13_isName_17 : decode cX13_isName 17 = .ok (.if_icmp .ne 17, 3) := by decide +kernel
theorem dX13_isName_20 : decode cX13_isName 20 = .ok (.aload_n 0, 1) := by decide +kernel
theorem dX13_isName_21 : decode cX13_isName 21 = .ok (.iconst 0, 1) := by decide +kernel
theorem dX13_isName_22 : decode cX13_isName 22 = .ok (.bipush 25, 2) := by decide +kernel
theorem dX13_isName_24 : decode cX13_isName 24 = .ok (.invokevirtual 214, 3) := by decide +kernel
theorem dX13_isName_27 : decode cX13_isName 27 = .ok (.ifCond .ge 7, 3) := by decide +kernel
theorem dX13_isName_30 : decode cX13_isName 30 = .ok (.iconst 1, 1) := by decide +kernel
theorem dX13_isName_31 : decode cX13_isName 31 = .ok (.goto 4, 3) := by decide +kernel
theorem dX13_isName_34 : decode cX13_isName 34 = .ok (.iconst 0, 1) := by decide +kernel
theorem dX13_isName_35 : decode cX13_isName 35 = .ok (.ireturn, 1) := by decide +kernel
theorem dX13_find_0 : decode cX13_find 0 = .ok (.iconst 0, 1) := by decide +kernel
theorem dX13_find_1 : decode cX13_find 1 = .ok (.istore_n 2, 1) := by decide +kernel
theorem dX13_find_2 : decode cX13_find 2 = .ok (.iload_n 2, 1) := by decide +kernel
theorem dX13_find_3 : decode cX13_find 3 = .ok (.iload_n 1, 1) := by decide +kernel
theorem dX13_find_4 : decode cX13_find 4 = .ok (.ifCond .eq 10, 3) := by decide +kernel
theorem dX13_find_7 : decode cX13_find 7 = .ok (.aload_n 0, 1) := by decide +kernel
theorem dX13_find_8 : decode cX13_find 8 = .ok (.getfield 217, 3) := by decide +kernel
theorem dX13_find_11 : decode cX13_find 11 = .ok (.goto 7, 3) := by decide +kernel
theorem dX13_find_14 : decode cX13_find 14 = .ok (.aload_n 0, 1) := by decide +kernel
theorem dX13_find_15 : decode cX13_find 15 = .ok (.getfield 220, 3) := by decide +kernel
theorem dX13_find_18 : decode cX13_find 18 = .ok (.if_icmp .ge 61, 3) := by decide +kernel
theorem dX13_find_21 : decode cX13_find 21 = .ok (.iload_n 1, 1) := by decide +kernel
theorem dX13_find_22 : decode cX13_find 22 = .ok (.ifCond .eq 12, 3) := by decide +kernel
theorem dX13_find_25 : decode cX13_find 25 = .ok (.aload_n 0, 1) := by decide +kernel
theorem dX13_find_26 : decode cX13_find 26 = .ok (.getfield 107, 3) := by decide +kernel
theorem dX13_find_29 : decode cX13_find 29 = .ok (.iload_n 2, 1) := by decide +kernel
theorem dX13_find_30 : decode cX13_find 30 = .ok (.laload, 1) := by decide +kernel
theorem dX13_find_31 : decode cX13_find 31 = .ok (.goto 9, 3) := by decide +kernel
theorem dX13_find_34 : decode cX13_find 34 = .ok (.aload_n 0, 1) := by decide +kernel
theorem dX13_find_35 : decode cX13_find 35 = .ok (.getfield 104, 3) := by decide +kernel
theorem dX13_find_38 : decode cX13_find 38 = .ok (.iload_n 2, 1) := by decide +kernel
theorem dX13_find_39 : decode cX13_find 39 = .ok (.laload, 1) := by decide +kernel
theorem dX13_find_40 : decode cX13_find 40 = .ok (.aload_n 0, 1) := by decide +kernel
theorem dX13_find_41 : decode cX13_find 41 = .ok (.getfield 30, 3) := by decide +kernel
theorem dX13_find_44 : decode cX13_find 44 = .ok (.aload_n 0, 1) := by decide +kernel
theorem dX13_find_45 : decode cX13_find 45 = .ok (.getfield 189, 3) := by decide +kernel
theorem dX13_find_48 : decode cX13_find 48 = .ok (.laload, 1) := by decide +kernel
theorem dX13_find_49 : decode cX13_find 49 = .ok (.lcmp, 1) := by decide +kernel
theorem dX13_find_50 : decode cX13_find 50 = .ok (.ifCond .ne 23, 3) := by decide +kernel
theorem dX13_find_53 : decode cX13_find 53 = .ok (.iload_n 1, 1) := by decide +kernel
theorem dX13_find_54 : decode cX13_find 54 = .ok (.ifCond .eq 12, 3) := by decide +kernel
theorem dX13_find_57 : decode cX13_find 57 = .ok (.aload_n 0, 1) := by decide +kernel
theorem dX13_find_58 : decode cX13_find 58 = .ok (.getfield 113, 3) := by decide +kernel
theorem dX13_find_61 : decode cX13_find 61 = .ok (.iload_n 2, 1) := by decide +kernel
theorem dX13_find_62 : decode cX13_find 62 = .ok (.iaload, 1) := by decide +kernel
theorem dX13_find_63 : decode cX13_find 63 = .ok (.goto 9, 3) := by decide +kernel
theorem dX13_find_66 : decode cX13_find 66 = .ok (.aload_n 0, 1) := by decide +kernel
theorem dX13_find_67 : decode cX13_find 67 = .ok (.getfield 110, 3) := by decide +kernel
theorem dX13_find_70 : decode cX13_find 70 = .ok (.iload_n 2, 1) := by decide +kernel
theorem dX13_find_71 : decode cX13_find 71 = .ok (.iaload, 1) := by decide +kernel
theorem dX13_find_72 : decode cX13_find 72 = .ok (.ireturn, 1) := by decide +kernel
theorem dX13_find_73 : decode cX13_find 73 = .ok (.iinc 2 1, 3) := by decide +kernel
theorem dX13_find_76 : decode cX13_find 76 = .ok (.goto (-74), 3) := by decide +kernel
theorem dX13_find_79 : decode cX13_find 79 = .ok (.iconst (-1), 1) := by decide +kernel
theorem dX13_find_80 : decode cX13_find 80 = .ok (.ireturn, 1) := by decide +kernel
set_option maxRecDepth 20000 in
theorem ggX13_toldHere_X13_isName : GoodIn wsX13_toldHere wsX13_isName := goodIn_r _ [6, 1, 7, 8, 9, 10, 11, 5, 12, 13, 14, 15, 16, 17, 18, 37, 38, 39, 40, 41, 42, 43, 44, 45, 46, 47, 48, 49, 50, 51, 52, 53, 54, 55, 56, 57, 58, 59, 60, 61, 62, 63, 64, 65, 66, 67, 68, 69, 70, 71, 72, 73, 74, 75, 76, 77] (by decide +kernel) (by decide +kernel)
set_option maxRecDepth 20000 in
theorem gX13_toldHere_X13_isName : GoodIn wsX13_toldHere (wsV RX13 223 RX13 yX13_isName wsX13_isName) := goodIn_app (goodIn_of _ (by decide +kernel)) ggX13_toldHere_X13_isName
set_option maxRecDepth 20000 in
theorem ggX13_toldHere_X13_wrong : GoodIn wsX13_toldHere wsX13_wrong := goodIn_r _ [22, 1, 23, 8, 37, 38, 39, 40, 41, 42, 43, 44, 45, 46, 47, 48, 49, 50, 51, 52, 53, 54, 55, 56, 57, 58, 59, 60, 61, 62, 63, 64, 65, 66, 67, 68, 69, 70, 71, 72, 73, 74, 75, 76, 77] (by decide +kernel) (by decide +kernel)
set_option maxRecDepth 20000 in
theorem gX13_toldHere_X13_wrong : GoodIn wsX13_toldHere (wsV RX13 198 RX13 yX13_wrong wsX13_wrong) := goodIn_app (goodIn_of _ (by decide +kernel)) ggX13_toldHere_X13_wrong
set_option maxRecDepth 20000 in
theorem ggX13_toldHere_X13_find : GoodIn wsX13_toldHere wsX13_find := goodIn_r _ [27, 28, 29, 30, 31, 17, 8, 32, 33, 37, 38, 39, 40, 41, 42, 43, 44, 45, 46, 47, 48, 49, 50, 51, 52, 53, 54, 55, 56, 57, 58, 59, 60, 61, 62, 63, 64, 65, 66, 67, 68, 69, 70, 71, 72, 73, 74, 75, 76, 77] (by decide +kernel) (by decide +kernel)
set_option maxRecDepth 20000 in
theorem gX13_toldHere_X13_find : GoodIn wsX13_toldHere (wsV RX13 227 RX13 yX13_find wsX13_find) := goodIn_app (goodIn_of _ (by decide +kernel)) ggX13_toldHere_X13_find
set_option maxRecDepth 20000 in
theorem ggX13_toldHere_X13_within : GoodIn wsX13_toldHere wsX13_within := goodIn_r _ [36] (by decide +kernel) (by decide +kernel)
set_option maxRecDepth 20000 in
theorem gX13_toldHere_X13_within : GoodIn wsX13_toldHere (va_wsS RX13 231 yX13_within wsX13_within) := goodIn_app (goodIn_of _ (by decide +kernel)) ggX13_toldHere_X13_within
theorem dX13_toldHere_0 : decode cX13_toldHere 0 = .ok (.aload_n 0, 1) := by decide +kernel
theorem dX13_toldHere_1 : decode cX13_toldHere 1 = .ok (.getfield 192, 3) := by decide +kernel
theorem dX13_toldHere_4 : decode cX13_toldHere 4 = .ok (.ifCond .ne 15, 3) := by decide +kernel
theorem dX13_toldHere_7 : decode cX13_toldHere 7 = .ok (.aload_n 0, 1) := by decide +kernel
theorem dX13_toldHere_8 : decode cX13_toldHere 8 = .ok (.invokevirtual 223, 3) := by decide +kernel
theorem dX13_toldHere_11 : decode cX13_toldHere 11 = .ok (.ifCond .ne 8, 3) := by decide +kernel
theorem dX13_toldHere_14 : decode cX13_toldHere 14 = .ok (.aload_n 0, 1) := by decide +kernel
theorem dX13_toldHere_15 : decode cX13_toldHere 15 = .ok (.iconst 1, 1) := by decide +kernel
theorem dX13_toldHere_16 : decode cX13_toldHere 16 = .ok (.invokevirtual 198, 3) := by decide +kernel
theorem dX13_toldHere_19 : decode cX13_toldHere 19 = .ok (.aload_n 0, 1) := by decide +kernel
theorem dX13_toldHere_20 : decode cX13_toldHere 20 = .ok (.getfield 192, 3) := by decide +kernel
theorem dX13_toldHere_23 : decode cX13_toldHere 23 = .ok (.ifCond .le 7, 3) := by decide +kernel
theorem dX13_toldHere_26 : decode cX13_toldHere 26 = .ok (.iconst (-1), 1) := by decide +kernel
theorem dX13_toldHere_27 : decode cX13_toldHere 27 = .ok (.goto 10, 3) := by decide +kernel
theorem dX13_toldHere_30 : decode cX13_toldHere 30 = .ok (.aload_n 0, 1) := by decide +kernel
theorem dX13_toldHere_31 : decode cX13_toldHere 31 = .ok (.iload_n 1, 1) := by decide +kernel
theorem dX13_toldHere_32 : decode cX13_toldHere 32 = .ok (.invokevirtual 227, 3) := by decide +kernel
theorem dX13_toldHere_35 : decode cX13_toldHere 35 = .ok (.iload_n 2, 1) := by decide +kernel
theorem dX13_toldHere_36 : decode cX13_toldHere 36 = .ok (.isub, 1) := by decide +kernel
theorem dX13_toldHere_37 : decode cX13_toldHere 37 = .ok (.istore_n 3, 1) := by decide +kernel
theorem dX13_toldHere_38 : decode cX13_toldHere 38 = .ok (.aload_n 0, 1) := by decide +kernel
theorem dX13_toldHere_39 : decode cX13_toldHere 39 = .ok (.getfield 192, 3) := by decide +kernel
theorem dX13_toldHere_42 : decode cX13_toldHere 42 = .ok (.ifCond .ne 18, 3) := by decide +kernel
theorem dX13_toldHere_45 : decode cX13_toldHere 45 = .ok (.iload_n 3, 1) := by decide +kernel
theorem dX13_toldHere_46 : decode cX13_toldHere 46 = .ok (.iconst 0, 1) := by decide +kernel
theorem dX13_toldHere_47 : decode cX13_toldHere 47 = .ok (.bipush 7, 2) := by decide +kernel
theorem dX13_toldHere_49 : decode cX13_toldHere 49 = .ok (.invokestatic 231, 3) := by decide +kernel
theorem dX13_toldHere_52 : decode cX13_toldHere 52 = .ok (.ifCond .ne 8, 3) := by decide +kernel
theorem dX13_toldHere_55 : decode cX13_toldHere 55 = .ok (.aload_n 0, 1) := by decide +kernel
theorem dX13_toldHere_56 : decode cX13_toldHere 56 = .ok (.iconst 2, 1) := by decide +kernel
theorem dX13_toldHere_57 : decode cX13_toldHere 57 = .ok (.invokevirtual 198, 3) := by decide +kernel
theorem dX13_toldHere_60 : decode cX13_toldHere 60 = .ok (.aload_n 0, 1) := by decide +kernel
theorem dX13_toldHere_61 : decode cX13_toldHere 61 = .ok (.getfield 192, 3) := by decide +kernel
theorem dX13_toldHere_64 : decode cX13_toldHere 64 = .ok (.ifCond .le 7, 3) := by decide +kernel
theorem dX13_toldHere_67 : decode cX13_toldHere 67 = .ok (.iconst 0, 1) := by decide +kernel
theorem dX13_toldHere_68 : decode cX13_toldHere 68 = .ok (.goto 4, 3) := by decide +kernel
theorem dX13_toldHere_71 : decode cX13_toldHere 71 = .ok (.iload_n 3, 1) := by decide +kernel
theorem dX13_toldHere_72 : decode cX13_toldHere 72 = .ok (.ireturn, 1) := by decide +kernel
set_option maxRecDepth 20000 in
theorem ggX13_takeTold_X13_toldHere : GoodIn wsX13_takeTold wsX13_toldHere := goodIn_r _ [7, 2, 8, 9, 10, 6, 11, 12, 1, 13, 14, 15, 16, 17, 18, 19, 20, 21, 22, 23, 24, 25, 26, 27, 28, 29, 30, 31, 32, 33, 34, 35, 36, 37, 38, 39, 40, 41, 42, 43, 44, 45, 46, 47, 48, 49, 50, 51, 52, 53, 54, 55, 56, 57, 58, 59, 60, 61, 62, 63, 64, 65, 66, 67, 68, 69, 70, 71, 72, 73, 74, 75, 76, 77, 78, 79, 80, 81] (by decide +kernel) (by decide +kernel)
set_option maxRecDepth 20000 in
theorem gX13_takeTold_X13_toldHere : GoodIn wsX13_takeTold (wsV RX13 235 RX13 yX13_toldHere wsX13_toldHere) := goodIn_app (goodIn_of _ (by decide +kernel)) ggX13_takeTold_X13_toldHere
theorem dX13_takeTold_0 : decode cX13_takeTold 0 = .ok (.aload_n 0, 1) := by decide +kernel
theorem dX13_takeTold_1 : decode cX13_takeTold 1 = .ok (.iload_n 1, 1) := by decide +kernel
theorem dX13_takeTold_2 : decode cX13_takeTold 2 = .ok (.iload_n 2, 1) := by decide +kernel
theorem dX13_takeTold_3 : decode cX13_takeTold 3 = .ok (.invokevirtual 235, 3) := by decide +kernel
theorem dX13_takeTold_6 : decode cX13_takeTold 6 = .ok (.istore_n 3, 1) := by decide +kernel
theorem dX13_takeTold_7 : decode cX13_takeTold 7 = .ok (.aload_n 0, 1) := by decide +kernel
theorem dX13_takeTold_8 : decode cX13_takeTold 8 = .ok (.dup, 1) := by decide +kernel
theorem dX13_takeTold_9 : decode cX13_takeTold 9 = .ok (.getfield 189, 3) := by decide +kernel
theorem dX13_takeTold_12 : decode cX13_takeTold 12 = .ok (.aload_n 0, 1) := by decide +kernel
theorem dX13_takeTold_13 : decode cX13_takeTold 13 = .ok (.getfield 192, 3) := by decide +kernel
theorem dX13_takeTold_16 : decode cX13_takeTold 16 = .ok (.ifCond .le 7, 3) := by decide +kernel
theorem dX13_takeTold_19 : decode cX13_takeTold 19 = .ok (.iconst 0, 1) := by decide +kernel
theorem dX13_takeTold_20 : decode cX13_takeTold 20 = .ok (.goto 4, 3) := by decide +kernel
theorem dX13_takeTold_23 : decode cX13_takeTold 23 = .ok (.iconst 1, 1) := by decide +kernel
theorem dX13_takeTold_24 : decode cX13_takeTold 24 = .ok (.iadd, 1) := by decide +kernel
theorem dX13_takeTold_25 : decode cX13_takeTold 25 = .ok (.putfield 189, 3) := by decide +kernel
theorem dX13_takeTold_28 : decode cX13_takeTold 28 = .ok (.iload_n 3, 1) := by decide +kernel
theorem dX13_takeTold_29 : decode cX13_takeTold 29 = .ok (.ireturn, 1) := by decide +kernel
set_option maxRecDepth 20000 in
theorem ggX13_gallery_X13_cutAll : GoodIn wsX13_gallery wsX13_cutAll := goodIn_r _ [19, 20, 21, 22, 23, 24, 5, 25, 26, 27, 6, 4, 28, 29, 18, 30, 31, 32, 33, 34, 35, 36, 37, 38, 39, 192, 193, 194, 195, 196, 197, 198, 199, 200, 201, 202, 203, 204, 205, 206, 207, 208, 209, 210, 211, 212, 213, 214, 215, 216, 217, 218, 219, 220, 221, 222, 223, 224, 225, 226, 227, 228, 229, 230, 231, 232] (by decide +kernel) (by decide +kernel)
set_option maxRecDepth 20000 in
theorem gX13_gallery_X13_cutAll : GoodIn wsX13_gallery (wsV RX13 239 RX13 yX13_cutAll wsX13_cutAll) := goodIn_app (goodIn_of _ (by decide +kernel)) ggX13_gallery_X13_cutAll
set_option maxRecDepth 20000 in
theorem ggX13_gallery_X13_standsAsAlways : GoodIn wsX13_gallery wsX13_standsAsAlways := goodIn_r _ [43, 7, 192, 193, 194, 195, 196, 197, 198, 199, 200, 201, 202, 203, 204, 205, 206, 207, 208, 209, 210, 211, 212, 213, 214, 215, 216, 217, 218, 219, 220, 221, 222, 223, 224, 225, 226, 227, 228, 229, 230, 231, 232] (by decide +kernel) (by decide +kernel)
set_option maxRecDepth 20000 in
theorem gX13_gallery_X13_standsAsAlways : GoodIn wsX13_gallery (wsV RX13 159 RX13 yX13_standsAsAlways wsX13_standsAsAlways) := goodIn_app (goodIn_of _ (by decide +kernel)) ggX13_gallery_X13_standsAsAlways
set_option maxRecDepth 20000 in
theorem ggX13_gallery_X13_readLine : GoodIn wsX13_gallery wsX13_readLine := goodIn_r _ [47, 48, 49, 50, 18, 51, 4, 5, 6, 27, 52, 53, 54, 55, 56, 7, 57, 58, 59, 60, 23, 61, 62, 63, 64, 11, 3, 13, 65, 66, 67, 68, 69, 70, 71, 72, 73, 74, 75, 76, 14, 10, 12, 77, 78, 79, 80, 81, 82, 83, 84, 85, 86, 87, 88, 89, 90, 91, 92, 93, 94, 95, 96, 97, 98, 99, 100, 101, 102, 103, 104, 105, 106, 107, 108, 109, 110, 111, 112, 113, 114, 115, 116, 117, 118, 119, 120, 121, 122, 123, 124, 125, 126, 127, 128, 129, 130, 131, 132, 133, 134, 2, 135, 136, 137, 138, 139, 140, 141, 142, 143, 144, 145, 146, 8, 9, 147, 148, 149, 150, 151, 152, 153, 154, 155, 156, 157, 158, 159, 160, 161, 162, 163, 164, 165, 166, 167, 168, 169, 170, 171, 192, 193, 194, 195, 196, 197, 198, 199, 200, 201, 202, 203, 204, 205, 206, 207, 208, 209, 210, 211, 212, 213, 214, 215, 216, 217, 218, 219, 220, 221, 222, 223, 224, 225, 226, 227, 228, 229, 230, 231, 232] (by decide +kernel) (by decide +kernel)
set_option maxRecDepth 20000 in
theorem gX13_gallery_X13_readLine : GoodIn wsX13_gallery (wsV RX13 245 RX13 yX13_readLine wsX13_readLine) := goodIn_app (goodIn_of _ (by decide +kernel)) ggX13_gallery_X13_readLine
set_option maxRecDepth 20000 in
theorem ggX13_gallery_X13_takeSign : GoodIn wsX13_gallery wsX13_takeSign := goodIn_r _ [167, 6, 155, 156, 157, 18, 158, 4, 5, 27, 57, 58, 59, 60, 23, 192, 193, 194, 195, 196, 197, 198, 199, 200, 201, 202, 203, 204, 205, 206, 207, 208, 209, 210, 211, 212, 213, 214, 215, 216, 217, 218, 219, 220, 221, 222, 223, 224, 225, 226, 227, 228, 229, 230, 231, 232] (by decide +kernel) (by decide +kernel)
set_option maxRecDepth 20000 in
theorem gX13_gallery_X13_takeSign : GoodIn wsX13_gallery (wsV RX13 248 RX13 yX13_takeSign wsX13_takeSign) := goodIn_app (goodIn_of _ (by decide +kernel)) ggX13_gallery_X13_takeSign
set_option maxRecDepth 20000 in
theorem ggX13_gallery_X13_begins : GoodIn wsX13_gallery wsX13_begins := goodIn_r _ [175, 176, 177, 178, 179, 180, 181, 182, 18, 183, 7, 184, 185, 186, 187, 188, 189, 190, 191, 192, 193, 194, 195, 196, 197, 198, 199, 200, 201, 202, 203, 204, 205, 206, 207, 208, 209, 210, 211, 212, 213, 214, 215, 216, 217, 218, 219, 220, 221, 222, 223, 224, 225, 226, 227, 228, 229, 230, 231, 232] (by decide +kernel) (by decide +kernel)
set_option maxRecDepth 20000 in
theorem gX13_gallery_X13_begins : GoodIn wsX13_gallery (wsV RX13 163 RX13 yX13_begins wsX13_begins) := goodIn_app (goodIn_of _ (by decide +kernel)) ggX13_gallery_X13_begins
theorem dX13_gallery_0 : decode cX13_gallery 0 = .ok (.aload_n 0, 1) := by decide +kernel
theorem dX13_gallery_1 : decode cX13_gallery 1 = .ok (.iconst 0, 1) := by decide +kernel
theorem dX13_gallery_2 : decode cX13_gallery 2 = .ok (.putfield 1, 3) := by decide +kernel
theorem dX13_gallery_5 : decode cX13_gallery 5 = .ok (.aload_n 0, 1) := by decide +kernel
theorem dX13_gallery_6 : decode cX13_gallery 6 = .ok (.invokevirtual 239, 3) := by decide +kernel
theorem dX13_gallery_9 : decode cX13_gallery 9 = .ok (.aload_n 0, 1) := by decide +kernel
theorem dX13_gallery_10 : decode cX13_gallery 10 = .ok (.iconst 0, 1) := by decide +kernel
theorem dX13_gallery_11 : decode cX13_gallery 11 = .ok (.putfield 242, 3) := by decide +kernel
theorem dX13_gallery_14 : decode cX13_gallery 14 = .ok (.aload_n 0, 1) := by decide +kernel
theorem dX13_gallery_15 : decode cX13_gallery 15 = .ok (.iconst 0, 1) := by decide +kernel
theorem dX13_gallery_16 : decode cX13_gallery 16 = .ok (.putfield 217, 3) := by decide +kernel
theorem dX13_gallery_19 : decode cX13_gallery 19 = .ok (.aload_n 0, 1) := by decide +kernel
theorem dX13_gallery_20 : decode cX13_gallery 20 = .ok (.bipush 70, 2) := by decide +kernel
theorem dX13_gallery_22 : decode cX13_gallery 22 = .ok (.invokevirtual 159, 3) := by decide +kernel
theorem dX13_gallery_25 : decode cX13_gallery 25 = .ok (.aload_n 0, 1) := by decide +kernel
theorem dX13_gallery_26 : decode cX13_gallery 26 = .ok (.getfield 192, 3) := by decide +kernel
theorem dX13_gallery_29 : decode cX13_gallery 29 = .ok (.ifCond .ne 28, 3) := by decide +kernel
theorem dX13_gallery_32 : decode cX13_gallery 32 = .ok (.aload_n 0, 1) := by decide +kernel
theorem dX13_gallery_33 : decode cX13_gallery 33 = .ok (.getfield 24, 3) := by decide +kernel
theorem dX13_gallery_36 : decode cX13_gallery 36 = .ok (.aload_n 0, 1) := by decide +kernel
theorem dX13_gallery_37 : decode cX13_gallery 37 = .ok (.getfield 189, 3) := by decide +kernel
theorem dX13_gallery_40 : decode cX13_gallery 40 = .ok (.iaload, 1) := by decide +kernel
theorem dX13_gallery_41 : decode cX13_gallery 41 = .ok (.ifCond .eq 16, 3) := by decide +kernel
theorem dX13_gallery_44 : decode cX13_gallery 44 = .ok (.aload_n 0, 1) := by decide +kernel
theorem dX13_gallery_45 : decode cX13_gallery 45 = .ok (.invokevirtual 245, 3) := by decide +kernel
theorem dX13_gallery_48 : decode cX13_gallery 48 = .ok (.aload_n 0, 1) := by decide +kernel
theorem dX13_gallery_49 : decode cX13_gallery 49 = .ok (.bipush 59, 2) := by decide +kernel
theorem dX13_gallery_51 : decode cX13_gallery 51 = .ok (.invokevirtual 248, 3) := by decide +kernel
theorem dX13_gallery_54 : decode cX13_gallery 54 = .ok (.goto (-29), 3) := by decide +kernel
theorem dX13_gallery_57 : decode cX13_gallery 57 = .ok (.aload_n 0, 1) := by decide +kernel
theorem dX13_gallery_58 : decode cX13_gallery 58 = .ok (.getfield 192, 3) := by decide +kernel
theorem dX13_gallery_61 : decode cX13_gallery 61 = .ok (.ifCond .le 8, 3) := by decide +kernel
theorem dX13_gallery_64 : decode cX13_gallery 64 = .ok (.aload_n 0, 1) := by decide +kernel
theorem dX13_gallery_65 : decode cX13_gallery 65 = .ok (.getfield 192, 3) := by decide +kernel
theorem dX13_gallery_68 : decode cX13_gallery 68 = .ok (.ireturn, 1) := by decide +kernel
theorem dX13_gallery_69 : decode cX13_gallery 69 = .ok (.iconst 0, 1) := by decide +kernel
theorem dX13_gallery_70 : decode cX13_gallery 70 = .ok (.istore_n 1, 1) := by decide +kernel
theorem dX13_gallery_71 : decode cX13_gallery 71 = .ok (.iload_n 1, 1) := by decide +kernel
theorem dX13_gallery_72 : decode cX13_gallery 72 = .ok (.bipush 70, 2) := by decide +kernel
theorem dX13_gallery_74 : decode cX13_gallery 74 = .ok (.if_icmp .ge 24, 3) := by decide +kernel
theorem dX13_gallery_77 : decode cX13_gallery 77 = .ok (.aload_n 0, 1) := by decide +kernel
theorem dX13_gallery_78 : decode cX13_gallery 78 = .ok (.getfield 95, 3) := by decide +kernel
theorem dX13_gallery_81 : decode cX13_gallery 81 = .ok (.iload_n 1, 1) := by decide +kernel
theorem dX13_gallery_82 : decode cX13_gallery 82 = .ok (.aload_n 0, 1) := by decide +kernel
theorem dX13_gallery_83 : decode cX13_gallery 83 = .ok (.getfield 95, 3) := by decide +kernel
theorem dX13_gallery_86 : decode cX13_gallery 86 = .ok (.bipush 70, 2) := by decide +kernel
theorem dX13_gallery_88 : decode cX13_gallery 88 = .ok (.iload_n 1, 1) := by decide +kernel
theorem dX13_gallery_89 : decode cX13_gallery 89 = .ok (.iadd, 1) := by decide +kernel
theorem dX13_gallery_90 : decode cX13_gallery 90 = .ok (.iaload, 1) := by decide +kernel
theorem dX13_gallery_91 : decode cX13_gallery 91 = .ok (.iastore, 1) := by decide +kernel
theorem dX13_gallery_92 : decode cX13_gallery 92 = .ok (.iinc 1 1, 3) := by decide +kernel
theorem dX13_gallery_95 : decode cX13_gallery 95 = .ok (.goto (-24), 3) := by decide +kernel
theorem dX13_gallery_98 : decode cX13_gallery 98 = .ok (.iconst 0, 1) := by decide +kernel
theorem dX13_gallery_99 : decode cX13_gallery 99 = .ok (.istore_n 1, 1) := by decide +kernel
theorem dX13_gallery_100 : decode cX13_gallery 100 = .ok (.iload_n 1, 1) := by decide +kernel
theorem dX13_gallery_101 : decode cX13_gallery 101 = .ok (.aload_n 0, 1) := by decide +kernel
theorem dX13_gallery_102 : decode cX13_gallery 102 = .ok (.getfield 242, 3) := by decide +kernel
theorem dX13_gallery_105 : decode cX13_gallery 105 = .ok (.if_icmp .ge 41, 3) := by decide +kernel
theorem dX13_gallery_108 : decode cX13_gallery 108 = .ok (.aload_n 0, 1) := by decide +kernel
theorem dX13_gallery_109 : decode cX13_gallery 109 = .ok (.getfield 98, 3) := by decide +kernel
theorem dX13_gallery_112 : decode cX13_gallery 112 = .ok (.iload_n 1, 1) := by decide +kernel
theorem dX13_gallery_113 : decode cX13_gallery 113 = .ok (.aload_n 0, 1) := by decide +kernel
theorem dX13_gallery_114 : decode cX13_gallery 114 = .ok (.getfield 98, 3) := by decide +kernel
theorem dX13_gallery_117 : decode cX13_gallery 117 = .ok (.sipush 1100, 3) := by decide +kernel
theorem dX13_gallery_120 : decode cX13_gallery 120 = .ok (.iload_n 1, 1) := by decide +kernel
theorem dX13_gallery_121 : decode cX13_gallery 121 = .ok (.iadd, 1) := by decide +kernel
theorem dX13_gallery_122 : decode cX13_gallery 122 = .ok (.iaload, 1) := by decide +kernel
theorem dX13_gallery_123 : decode cX13_gallery 123 = .ok (.iastore, 1) := by decide +kernel
theorem dX13_gallery_124 : decode cX13_gallery 124 = .ok (.aload_n 0, 1) := by decide +kernel
theorem dX13_gallery_125 : decode cX13_gallery 125 = .ok (.getfield 101, 3) := by decide +kernel
theorem dX13_gallery_128 : decode cX13_gallery 128 = .ok (.iload_n 1, 1) := by decide +kernel
theorem dX13_gallery_129 : decode cX13_gallery 129 = .ok (.aload_n 0, 1) := by decide +kernel
theorem dX13_gallery_130 : decode cX13_gallery 130 = .ok (.getfield 101, 3) := by decide +kernel
theorem dX13_gallery_133 : decode cX13_gallery 133 = .ok (.sipush 1100, 3) := by decide +kernel
theorem dX13_gallery_136 : decode cX13_gallery 136 = .ok (.iload_n 1, 1) := by decide +kernel
theorem dX13_gallery_137 : decode cX13_gallery 137 = .ok (.iadd, 1) := by decide +kernel
theorem dX13_gallery_138 : decode cX13_gallery 138 = .ok (.iaload, 1) := by decide +kernel
theorem dX13_gallery_139 : decode cX13_gallery 139 = .ok (.iastore, 1) := by decide +kernel
theorem dX13_gallery_140 : decode cX13_gallery 140 = .ok (.iinc 1 1, 3) := by decide +kernel
theorem dX13_gallery_143 : decode cX13_gallery 143 = .ok (.goto (-43), 3) := by decide +kernel
theorem dX13_gallery_146 : decode cX13_gallery 146 = .ok (.iconst 0, 1) := by decide +kernel
theorem dX13_gallery_147 : decode cX13_gallery 147 = .ok (.istore_n 1, 1) := by decide +kernel
theorem dX13_gallery_148 : decode cX13_gallery 148 = .ok (.iload_n 1, 1) := by decide +kernel
theorem dX13_gallery_149 : decode cX13_gallery 149 = .ok (.aload_n 0, 1) := by decide +kernel
theorem dX13_gallery_150 : decode cX13_gallery 150 = .ok (.getfield 217, 3) := by decide +kernel
theorem dX13_gallery_153 : decode cX13_gallery 153 = .ok (.if_icmp .ge 33, 3) := by decide +kernel
theorem dX13_gallery_156 : decode cX13_gallery 156 = .ok (.aload_n 0, 1) := by decide +kernel
theorem dX13_gallery_157 : decode cX13_gallery 157 = .ok (.getfield 104, 3) := by decide +kernel
theorem dX13_gallery_160 : decode cX13_gallery 160 = .ok (.iload_n 1, 1) := by decide +kernel
theorem dX13_gallery_161 : decode cX13_gallery 161 = .ok (.aload_n 0, 1) := by decide +kernel
theorem dX13_gallery_162 : decode cX13_gallery 162 = .ok (.getfield 107, 3) := by decide +kernel
theorem dX13_gallery_165 : decode cX13_gallery 165 = .ok (.iload_n 1, 1) := by decide +kernel
theorem dX13_gallery_166 : decode cX13_gallery 166 = .ok (.laload, 1) := by decide +kernel
theorem dX13_gallery_167 : decode cX13_gallery 167 = .ok (.lastore, 1) := by decide +kernel
theorem dX13_gallery_168 : decode cX13_gallery 168 = .ok (.aload_n 0, 1) := by decide +kernel
theorem dX13_gallery_169 : decode cX13_gallery 169 = .ok (.getfield 110, 3) := by decide +kernel
theorem dX13_gallery_172 : decode cX13_gallery 172 = .ok (.iload_n 1, 1) := by decide +kernel
theorem dX13_gallery_173 : decode cX13_gallery 173 = .ok (.aload_n 0, 1) := by decide +kernel
theorem dX13_gallery_174 : decode cX13_gallery 174 = .ok (.getfield 113, 3) := by decide +kernel
theorem dX13_gallery_177 : decode cX13_gallery 177 = .ok (.iload_n 1, 1) := by decide +kernel
theorem dX13_gallery_178 : decode cX13_gallery 178 = .ok (.iaload, 1) := by decide +kernel
theorem dX13_gallery_179 : decode cX13_gallery 179 = .ok (.iastore, 1) := by decide +kernel
theorem dX13_gallery_180 : decode cX13_gallery 180 = .ok (.iinc 1 1, 3) := by decide +kernel
theorem dX13_gallery_183 : decode cX13_gallery 183 = .ok (.goto (-35), 3) := by decide +kernel
theorem dX13_gallery_186 : decode cX13_gallery 186 = .ok (.aload_n 0, 1) := by decide +kernel
theorem dX13_gallery_187 : decode cX13_gallery 187 = .ok (.aload_n 0, 1) := by decide +kernel
theorem dX13_gallery_188 : decode cX13_gallery 188 = .ok (.getfield 217, 3) := by decide +kernel
theorem dX13_gallery_191 : decode cX13_gallery 191 = .ok (.putfield 220, 3) := by decide +kernel
theorem dX13_gallery_194 : decode cX13_gallery 194 = .ok (.aload_n 0, 1) := by decide +kernel
theorem dX13_gallery_195 : decode cX13_gallery 195 = .ok (.invokevirtual 163, 3) := by decide +kernel
theorem dX13_gallery_198 : decode cX13_gallery 198 = .ok (.iconst 0, 1) := by decide +kernel
theorem dX13_gallery_199 : decode cX13_gallery 199 = .ok (.ireturn, 1) := by decide +kernel
set_option maxRecDepth 20000 in
theorem ggX13_readLine_X13_isWord : GoodIn wsX13_readLine wsX13_isWord := goodIn_r _ [5, 6, 7, 8, 9, 10, 141, 142, 143, 144, 145, 146, 147, 148, 149, 150, 151, 152, 153, 154, 155, 156, 157, 158, 159, 160, 161, 162, 163, 164, 165, 166, 167, 168, 169, 170, 171, 172, 173, 174, 175, 176, 177, 178, 179, 180, 181] (by decide +kernel) (by decide +kernel)
set_option maxRecDepth 20000 in
theorem gX13_readLine_X13_isWord : GoodIn wsX13_readLine (wsV RX13 201 RX13 yX13_isWord wsX13_isWord) := goodIn_app (goodIn_of _ (by decide +kernel)) ggX13_readLine_X13_isWord
set_option maxRecDepth 20000 in
theorem ggX13_readLine_X13_readSpot : GoodIn wsX13_readLine wsX13_readSpot := goodIn_r _ [14, 15, 16, 17, 18, 4, 19, 6, 20, 8, 21, 22, 23, 24, 25, 26, 9, 27, 28, 29, 30, 31, 7, 32, 33, 34, 35, 1, 2, 3, 5, 10, 36, 37, 38, 39, 40, 41, 42, 141, 142, 143, 144, 145, 146, 147, 148, 149, 150, 151, 152, 153, 154, 155, 156, 157, 158, 159, 160, 161, 162, 163, 164, 165, 166, 167, 168, 169, 170, 171, 172, 173, 174, 175, 176, 177, 178, 179, 180, 181] (by decide +kernel) (by decide +kernel)
set_option maxRecDepth 20000 in
theorem gX13_readLine_X13_readSpot : GoodIn wsX13_readLine (wsV RX13 251 RX13 yX13_readSpot wsX13_readSpot) := goodIn_app (goodIn_of _ (by decide +kernel)) ggX13_readLine_X13_readSpot
set_option maxRecDepth 20000 in
theorem ggX13_readLine_X13_readThief : GoodIn wsX13_readLine wsX13_readThief := goodIn_r _ [46, 15, 16, 17, 18, 4, 19, 6, 20, 8, 21, 22, 23, 24, 25, 26, 9, 27, 28, 29, 30, 31, 7, 32, 33, 34, 35, 1, 2, 3, 5, 10, 36, 37, 38, 39, 40, 41, 42, 47, 48, 49, 50, 51, 52, 53, 54, 55, 56, 57, 58, 59, 60, 61, 62, 63, 64, 65, 66, 67, 68, 69, 70, 141, 142, 143, 144, 145, 146, 147, 148, 149, 150, 151, 152, 153, 154, 155, 156, 157, 158, 159, 160, 161, 162, 163, 164, 165, 166, 167, 168, 169, 170, 171, 172, 173, 174, 175, 176, 177, 178, 179, 180, 181] (by decide +kernel) (by decide +kernel)
set_option maxRecDepth 20000 in
theorem gX13_readLine_X13_readThief : GoodIn wsX13_readLine (wsV RX13 254 RX13 yX13_readThief wsX13_readThief) := goodIn_app (goodIn_of _ (by decide +kernel)) ggX13_readLine_X13_readThief
set_option maxRecDepth 20000 in
theorem ggX13_readLine_X13_readCopy : GoodIn wsX13_readLine wsX13_readCopy := goodIn_r _ [74, 15, 8, 16, 17, 18, 4, 19, 6, 20, 51, 52, 53, 54, 55, 56, 57, 58, 59, 60, 61, 62, 1, 2, 3, 5, 7, 9, 10, 63, 64, 65, 66, 75, 76, 77, 78, 28, 29, 30, 31, 32, 33, 34, 35, 79, 80, 81, 82, 36, 37, 38, 39, 26, 40, 25, 41, 27, 42, 83, 84, 85, 86, 87, 88, 89, 90, 91, 92, 141, 142, 143, 144, 145, 146, 147, 148, 149, 150, 151, 152, 153, 154, 155, 156, 157, 158, 159, 160, 161, 162, 163, 164, 165, 166, 167, 168, 169, 170, 171, 172, 173, 174, 175, 176, 177, 178, 179, 180, 181] (by decide +kernel) (by decide +kernel)
set_option maxRecDepth 20000 in
theorem gX13_readLine_X13_readCopy : GoodIn wsX13_readLine (wsV RX13 257 RX13 yX13_readCopy wsX13_readCopy) := goodIn_app (goodIn_of _ (by decide +kernel)) ggX13_readLine_X13_readCopy
set_option maxRecDepth 20000 in
theorem ggX13_readLine_X13_readExpert : GoodIn wsX13_readLine wsX13_readExpert := goodIn_r _ [96, 15, 16, 17, 18, 4, 19, 6, 20, 8, 21, 22, 23, 24, 25, 26, 9, 27, 28, 29, 30, 31, 7, 32, 33, 34, 35, 1, 2, 3, 5, 10, 36, 37, 38, 39, 40, 41, 42, 55, 56, 57, 58, 59, 60, 61, 62, 75, 76, 77, 78, 79, 80, 81, 82, 83, 84, 85, 141, 142, 143, 144, 145, 146, 147, 148, 149, 150, 151, 152, 153, 154, 155, 156, 157, 158, 159, 160, 161, 162, 163, 164, 165, 166, 167, 168, 169, 170, 171, 172, 173, 174, 175, 176, 177, 178, 179, 180, 181] (by decide +kernel) (by decide +kernel)
set_option maxRecDepth 20000 in
theorem gX13_readLine_X13_readExpert : GoodIn wsX13_readLine (wsV RX13 260 RX13 yX13_readExpert wsX13_readExpert) := goodIn_app (goodIn_of _ (by decide +kernel)) ggX13_readLine_X13_readExpert
set_option maxRecDepth 20000 in
theorem ggX13_readLine_X13_readLaw : GoodIn wsX13_readLine wsX13_readLaw := goodIn_r _ [100, 15, 6, 8, 101, 102, 32, 33, 34, 4, 35, 1, 2, 3, 5, 7, 9, 10, 16, 17, 18, 19, 20, 103, 104, 105, 106, 107, 108, 109, 110, 111, 112, 113, 114, 115, 116, 117, 118, 119, 120, 121, 122, 123, 124, 125, 126, 127, 128, 129, 130, 131, 132, 59, 60, 61, 62, 133, 134, 135, 136, 137, 138, 139, 140, 141, 142, 143, 144, 145, 146, 147, 148, 149, 150, 151, 152, 153, 154, 155, 156, 157, 158, 159, 160, 161, 162, 163, 164, 165, 166, 167, 168, 169, 170, 171, 172, 173, 174, 175, 176, 177, 178, 179, 180, 181] (by decide +kernel) (by decide +kernel)
set_option maxRecDepth 20000 in
theorem gX13_readLine_X13_readLaw : GoodIn wsX13_readLine (wsV RX13 263 RX13 yX13_readLaw wsX13_readLaw) := goodIn_app (goodIn_of _ (by decide +kernel)) ggX13_readLine_X13_readLaw
theorem dX13_readLine_0 : decode cX13_readLine 0 = .ok (.aload_n 0, 1) := by decide +kernel
theorem dX13_readLine_1 : decode cX13_readLine 1 = .ok (.iconst 0, 1) := by decide +kernel
theorem dX13_readLine_2 : decode cX13_readLine 2 = .ok (.invokevirtual 201, 3) := by decide +kernel
theorem dX13_readLine_5 : decode cX13_readLine 5 = .ok (.ifCond .eq 10, 3) := by decide +kernel
theorem dX13_readLine_8 : decode cX13_readLine 8 = .ok (.aload_n 0, 1) := by decide +kernel
theorem dX13_readLine_9 : decode cX13_readLine 9 = .ok (.invokevirtual 251, 3) := by decide +kernel
theorem dX13_readLine_12 : decode cX13_readLine 12 = .ok (.goto 53, 3) := by decide +kernel
theorem dX13_readLine_15 : decode cX13_readLine 15 = .ok (.aload_n 0, 1) := by decide +kernel
theorem dX13_readLine_16 : decode cX13_readLine 16 = .ok (.iconst 1, 1) := by decide +kernel
theorem dX13_readLine_17 : decode cX13_readLine 17 = .ok (.invokevirtual 201, 3) := by decide +kernel
theorem dX13_readLine_20 : decode cX13_readLine 20 = .ok (.ifCond .eq 10, 3) := by decide +kernel
theorem dX13_readLine_23 : decode cX13_readLine 23 = .ok (.aload_n 0, 1) := by decide +kernel
theorem dX13_readLine_24 : decode cX13_readLine 24 = .ok (.invokevirtual 254, 3) := by decide +kernel
theorem dX13_readLine_27 : decode cX13_readLine 27 = .ok (.goto 38, 3) := by decide +kernel
theorem dX13_readLine_30 : decode cX13_readLine 30 = .ok (.aload_n 0, 1) := by decide +kernel
theorem dX13_readLine_31 : decode cX13_readLine 31 = .ok (.iconst 5, 1) := by decide +kernel
theorem dX13_readLine_32 : decode cX13_readLine 32 = .ok (.invokevirtual 201, 3) := by decide +kernel
theorem dX13_readLine_35 : decode cX13_readLine 35 = .ok (.ifCond .eq 10, 3) := by decide +kernel
theorem dX13_readLine_38 : decode cX13_readLine 38 = .ok (.aload_n 0, 1) := by decide +kernel
theorem dX13_readLine_39 : decode cX13_readLine 39 = .ok (.invokevirtual 257, 3) := by decide +kernel
theorem dX13_readLine_42 : decode cX13_readLine 42 = .ok (.goto 23, 3) := by decide +kernel
theorem dX13_readLine_45 : decode cX13_readLine 45 = .ok (.aload_n 0, 1) := by decide +kernel
theorem dX13_readLine_46 : decode cX13_readLine 46 = .ok (.bipush 9, 2) := by decide +kernel
theorem dX13_readLine_48 : decode cX13_readLine 48 = .ok (.invokevirtual 201, 3) := by decide +kernel
theorem dX13_readLine_51 : decode cX13_readLine 51 = .ok (.ifCond .eq 10, 3) := by decide +kernel
theorem dX13_readLine_54 : decode cX13_readLine 54 = .ok (.aload_n 0, 1) := by decide +kernel
theorem dX13_readLine_55 : decode cX13_readLine 55 = .ok (.invokevirtual 260, 3) := by decide +kernel
theorem dX13_readLine_58 : decode cX13_readLine 58 = .ok (.goto 7, 3) := by decide +kernel
theorem dX13_readLine_61 : decode cX13_readLine 61 = .ok (.aload_n 0, 1) := by decide +kernel
theorem dX13_readLine_62 : decode cX13_readLine 62 = .ok (.invokevirtual 263, 3) := by decide +kernel
theorem dX13_readLine_65 : decode cX13_readLine 65 = .ok (.return_, 1) := by decide +kernel
set_option maxRecDepth 20000 in
theorem ggX13_readName_X13_isName : GoodIn wsX13_readName wsX13_isName := goodIn_r _ [11, 2, 12, 1, 13, 14, 15, 10, 16, 17, 18, 19, 20, 5, 21, 34, 35, 36, 37, 38, 39, 40, 41, 42, 43, 44, 45, 46, 47, 48, 49, 50, 51, 52, 53, 54, 55, 56, 57, 58, 59, 60, 61, 62, 63, 64, 65, 66, 67, 68, 69, 70, 71, 72, 73, 74] (by decide +kernel) (by decide +kernel)
set_option maxRecDepth 20000 in
theorem gX13_readName_X13_isName : GoodIn wsX13_readName (wsV RX13 223 RX13 yX13_isName wsX13_isName) := goodIn_app (goodIn_of _ (by decide +kernel)) ggX13_readName_X13_isName
set_option maxRecDepth 20000 in
theorem ggX13_readName_X13_wrong : GoodIn wsX13_readName wsX13_wrong := goodIn_r _ [25, 2, 26, 1, 34, 35, 36, 37, 38, 39, 40, 41, 42, 43, 44, 45, 46, 47, 48, 49, 50, 51, 52, 53, 54, 55, 56, 57, 58, 59, 60, 61, 62, 63, 64, 65, 66, 67, 68, 69, 70, 71, 72, 73, 74] (by decide +kernel) (by decide +kernel)
set_option maxRecDepth 20000 in
theorem gX13_readName_X13_wrong : GoodIn wsX13_readName (wsV RX13 198 RX13 yX13_wrong wsX13_wrong) := goodIn_app (goodIn_of _ (by decide +kernel)) ggX13_readName_X13_wrong
set_option maxRecDepth 20000 in
theorem ggX13_readName_X13_find : GoodIn wsX13_readName wsX13_find := goodIn_r _ [30, 4, 31, 3, 32, 5, 1, 6, 33, 34, 35, 36, 37, 38, 39, 40, 41, 42, 43, 44, 45, 46, 47, 48, 49, 50, 51, 52, 53, 54, 55, 56, 57, 58, 59, 60, 61, 62, 63, 64, 65, 66, 67, 68, 69, 70, 71, 72, 73, 74] (by decide +kernel) (by decide +kernel)
set_option maxRecDepth 20000 in
theorem gX13_readName_X13_find : GoodIn wsX13_readName (wsV RX13 227 RX13 yX13_find wsX13_find) := goodIn_app (goodIn_of _ (by decide +kernel)) ggX13_readName_X13_find
theorem dX13_readName_0 : decode cX13_readName 0 = .ok (.aload_n 0, 1) := by decide +kernel
theorem dX13_readName_1 : decode cX13_readName 1 = .ok (.dup, 1) := by decide +kernel
theorem dX13_readName_2 : decode cX13_readName 2 = .ok (.getfield 189, 3) := by decide +kernel
theorem dX13_readName_5 : decode cX13_readName 5 = .ok (.iconst 1, 1) := by decide +kernel
theorem dX13_readName_6 : decode cX13_readName 6 = .ok (.iadd, 1) := by decide +kernel
theorem dX13_readName_7 : decode cX13_readName 7 = .ok (.putfield 189, 3) := by decide +kernel
theorem dX13_readName_10 : decode cX13_readName 10 = .ok (.aload_n 0, 1) := by decide +kernel
theorem dX13_readName_11 : decode cX13_readName 11 = .ok (.invokevirtual 223, 3) := by decide +kernel
theorem dX13_readName_14 : decode cX13_readName 14 = .ok (.ifCond .ne 11, 3) := by decide +kernel
theorem dX13_readName_17 : decode cX13_readName 17 = .ok (.aload_n 0, 1) := by decide +kernel
theorem dX13_readName_18 : decode cX13_readName 18 = .ok (.iconst 1, 1) := by decide +kernel
theorem dX13_readName_19 : decode cX13_readName 19 = .ok (.invokevirtual 198, 3) := by decide +kernel
theorem dX13_readName_22 : decode cX13_readName 22 = .ok (.goto 16, 3) := by decide +kernel
theorem dX13_readName_25 : decode cX13_readName 25 = .ok (.aload_n 0, 1) := by decide +kernel
theorem dX13_readName_26 : decode cX13_readName 26 = .ok (.iconst 1, 1) := by decide +kernel
theorem dX13_readName_27 : decode cX13_readName 27 = .ok (.invokevirtual 227, 3) := by decide +kernel
theorem dX13_readName_30 : decode cX13_readName 30 = .ok (.ifCond .lt 8, 3) := by decide +kernel
theorem dX13_readName_33 : decode cX13_readName 33 = .ok (.aload_n 0, 1) := by decide +kernel
theorem dX13_readName_34 : decode cX13_readName 34 = .ok (.iconst 3, 1) := by decide +kernel
theorem dX13_readName_35 : decode cX13_readName 35 = .ok (.invokevirtual 198, 3) := by decide +kernel
theorem dX13_readName_38 : decode cX13_readName 38 = .ok (.aload_n 0, 1) := by decide +kernel
theorem dX13_readName_39 : decode cX13_readName 39 = .ok (.getfield 192, 3) := by decide +kernel
theorem dX13_readName_42 : decode cX13_readName 42 = .ok (.ifCond .ne 51, 3) := by decide +kernel
theorem dX13_readName_45 : decode cX13_readName 45 = .ok (.aload_n 0, 1) := by decide +kernel
theorem dX13_readName_46 : decode cX13_readName 46 = .ok (.getfield 107, 3) := by decide +kernel
theorem dX13_readName_49 : decode cX13_readName 49 = .ok (.aload_n 0, 1) := by decide +kernel
theorem dX13_readName_50 : decode cX13_readName 50 = .ok (.getfield 217, 3) := by decide +kernel
theorem dX13_readName_53 : decode cX13_readName 53 = .ok (.aload_n 0, 1) := by decide +kernel
theorem dX13_readName_54 : decode cX13_readName 54 = .ok (.getfield 30, 3) := by decide +kernel
theorem dX13_readName_57 : decode cX13_readName 57 = .ok (.aload_n 0, 1) := by decide +kernel
theorem dX13_readName_58 : decode cX13_readName 58 = .ok (.getfield 189, 3) := by decide +kernel
theorem dX13_readName_61 : decode cX13_readName 61 = .ok (.laload, 1) := by decide +kernel
theorem dX13_readName_62 : decode cX13_readName 62 = .ok (.lastore, 1) := by decide +kernel
theorem dX13_readName_63 : decode cX13_readName 63 = .ok (.aload_n 0, 1) := by decide +kernel
theorem dX13_readName_64 : decode cX13_readName 64 = .ok (.getfield 113, 3) := by decide +kernel
theorem dX13_readName_67 : decode cX13_readName 67 = .ok (.aload_n 0, 1) := by decide +kernel
theorem dX13_readName_68 : decode cX13_readName 68 = .ok (.getfield 217, 3) := by decide +kernel
theorem dX13_readName_71 : decode cX13_readName 71 = .ok (.iload_n 1, 1) := by decide +kernel
theorem dX13_readName_72 : decode cX13_readName 72 = .ok (.iastore, 1) := by decide +kernel
theorem dX13_readName_73 : decode cX13_readName 73 = .ok (.aload_n 0, 1) := by decide +kernel
theorem dX13_readName_74 : decode cX13_readName 74 = .ok (.dup, 1) := by decide +kernel
theorem dX13_readName_75 : decode cX13_readName 75 = .ok (.getfield 217, 3) := by decide +kernel
theorem dX13_readName_78 : decode cX13_readName 78 = .ok (.iconst 1, 1) := by decide +kernel
theorem dX13_readName_79 : decode cX13_readName 79 = .ok (.iadd, 1) := by decide +kernel
theorem dX13_readName_80 : decode cX13_readName 80 = .ok (.putfield 217, 3) := by decide +kernel
theorem dX13_readName_83 : decode cX13_readName 83 = .ok (.aload_n 0, 1) := by decide +kernel
theorem dX13_readName_84 : decode cX13_readName 84 = .ok (.dup, 1) := by decide +kernel
theorem dX13_readName_85 : decode cX13_readName 85 = .ok (.getfield 189, 3) := by decide +kernel
theorem dX13_readName_88 : decode cX13_readName 88 = .ok (.iconst 1, 1) := by decide +kernel
theorem dX13_readName_89 : decode cX13_readName 89 = .ok (.iadd, 1) := by decide +kernel
theorem dX13_readName_90 : decode cX13_readName 90 = .ok (.putfield 189, 3) := by decide +kernel
theorem dX13_readName_93 : decode cX13_readName 93 = .ok (.return_, 1) := by decide +kernel
set_option maxRecDepth 20000 in
theorem ggX13_readSpot_X13_wrong : GoodIn wsX13_readSpot wsX13_wrong := goodIn_r _ [6, 7, 8, 9, 39, 40, 41, 42, 43, 44, 45, 46, 47, 48, 49, 50, 51, 52, 53, 54, 55, 56, 57, 58, 59, 60, 61, 62, 63, 64, 65, 66, 67, 68, 69, 70, 71, 72, 73, 74, 75, 76, 77, 78, 79] (by decide +kernel) (by decide +kernel)
set_option maxRecDepth 20000 in
theorem gX13_readSpot_X13_wrong : GoodIn wsX13_readSpot (wsV RX13 198 RX13 yX13_wrong wsX13_wrong) := goodIn_app (goodIn_of _ (by decide +kernel)) ggX13_readSpot_X13_wrong
set_option maxRecDepth 20000 in
theorem ggX13_readSpot_X13_readName : GoodIn wsX13_readSpot wsX13_readName := goodIn_r _ [13, 9, 7, 14, 15, 16, 17, 18, 19, 20, 5, 21, 22, 23, 24, 25, 26, 27, 28, 29, 30, 31, 2, 3, 4, 6, 8, 32, 33, 34, 35, 36, 37, 38, 39, 40, 41, 42, 43, 44, 45, 46, 47, 48, 49, 50, 51, 52, 53, 54, 55, 56, 57, 58, 59, 60, 61, 62, 63, 64, 65, 66, 67, 68, 69, 70, 71, 72, 73, 74, 75, 76, 77, 78, 79] (by decide +kernel) (by decide +kernel)
set_option maxRecDepth 20000 in
theorem gX13_readSpot_X13_readName : GoodIn wsX13_readSpot (wsV RX13 266 RX13 yX13_readName wsX13_readName) := goodIn_app (goodIn_of _ (by decide +kernel)) ggX13_readSpot_X13_readName
theorem dX13_readSpot_0 : decode cX13_readSpot 0 = .ok (.aload_n 0, 1) := by decide +kernel
theorem dX13_readSpot_1 : decode cX13_readSpot 1 = .ok (.getfield 95, 3) := by decide +kernel
theorem dX13_readSpot_4 : decode cX13_readSpot 4 = .ok (.bipush 70, 2) := by decide +kernel
theorem dX13_readSpot_6 : decode cX13_readSpot 6 = .ok (.iaload, 1) := by decide +kernel
theorem dX13_readSpot_7 : decode cX13_readSpot 7 = .ok (.istore_n 1, 1) := by decide +kernel
theorem dX13_readSpot_8 : decode cX13_readSpot 8 = .ok (.iload_n 1, 1) := by decide +kernel
theorem dX13_readSpot_9 : decode cX13_readSpot 9 = .ok (.bipush 8, 2) := by decide +kernel
theorem dX13_readSpot_11 : decode cX13_readSpot 11 = .ok (.if_icmp .ne 9, 3) := by decide +kernel
theorem dX13_readSpot_14 : decode cX13_readSpot 14 = .ok (.aload_n 0, 1) := by decide +kernel
theorem dX13_readSpot_15 : decode cX13_readSpot 15 = .ok (.iconst 5, 1) := by decide +kernel
theorem dX13_readSpot_16 : decode cX13_readSpot 16 = .ok (.invokevirtual 198, 3) := by decide +kernel
theorem dX13_readSpot_19 : decode cX13_readSpot 19 = .ok (.return_, 1) := by decide +kernel
theorem dX13_readSpot_20 : decode cX13_readSpot 20 = .ok (.aload_n 0, 1) := by decide +kernel
theorem dX13_readSpot_21 : decode cX13_readSpot 21 = .ok (.iload_n 1, 1) := by decide +kernel
theorem dX13_readSpot_22 : decode cX13_readSpot 22 = .ok (.invokevirtual 266, 3) := by decide +kernel
theorem dX13_readSpot_25 : decode cX13_readSpot 25 = .ok (.aload_n 0, 1) := by decide +kernel
theorem dX13_readSpot_26 : decode cX13_readSpot 26 = .ok (.getfield 95, 3) := by decide +kernel
theorem dX13_readSpot_29 : decode cX13_readSpot 29 = .ok (.bipush 70, 2) := by decide +kernel
theorem dX13_readSpot_31 : decode cX13_readSpot 31 = .ok (.dup2, 1) := by decide +kernel
theorem dX13_readSpot_32 : decode cX13_readSpot 32 = .ok (.iaload, 1) := by decide +kernel
theorem dX13_readSpot_33 : decode cX13_readSpot 33 = .ok (.iconst 1, 1) := by decide +kernel
theorem dX13_readSpot_34 : decode cX13_readSpot 34 = .ok (.iadd, 1) := by decide +kernel
theorem dX13_readSpot_35 : decode cX13_readSpot 35 = .ok (.iastore, 1) := by decide +kernel
theorem dX13_readSpot_36 : decode cX13_readSpot 36 = .ok (.return_, 1) := by decide +kernel
set_option maxRecDepth 20000 in
theorem ggX13_readThief_X13_wrong : GoodIn wsX13_readThief wsX13_wrong := goodIn_r _ [6, 7, 8, 9, 63, 64, 65, 66, 67, 68, 69, 70, 71, 72, 73, 74, 75, 76, 77, 78, 79, 80, 81, 82, 83, 84, 85, 86, 87, 88, 89, 90, 91, 92, 93, 94, 95, 96, 97, 98, 99, 100, 101, 102, 103] (by decide +kernel) (by decide +kernel)
set_option maxRecDepth 20000 in
theorem gX13_readThief_X13_wrong : GoodIn wsX13_readThief (wsV RX13 198 RX13 yX13_wrong wsX13_wrong) := goodIn_app (goodIn_of _ (by decide +kernel)) ggX13_readThief_X13_wrong
set_option maxRecDepth 20000 in
theorem ggX13_readThief_X13_readName : GoodIn wsX13_readThief wsX13_readName := goodIn_r _ [13, 9, 7, 14, 15, 16, 17, 18, 19, 20, 5, 21, 22, 23, 24, 25, 26, 27, 28, 29, 30, 31, 2, 3, 4, 6, 8, 32, 33, 34, 35, 36, 37, 38, 63, 64, 65, 66, 67, 68, 69, 70, 71, 72, 73, 74, 75, 76, 77, 78, 79, 80, 81, 82, 83, 84, 85, 86, 87, 88, 89, 90, 91, 92, 93, 94, 95, 96, 97, 98, 99, 100, 101, 102, 103] (by decide +kernel) (by decide +kernel)
set_option maxRecDepth 20000 in
theorem gX13_readThief_X13_readName : GoodIn wsX13_readThief (wsV RX13 266 RX13 yX13_readName wsX13_readName) := goodIn_app (goodIn_of _ (by decide +kernel)) ggX13_readThief_X13_readName
set_option maxRecDepth 20000 in
theorem ggX13_readThief_X13_takeOne : GoodIn wsX13_readThief wsX13_takeOne := goodIn_r _ [42, 7, 9, 23, 24, 25, 5, 26, 27, 28, 29, 30, 22, 16, 31, 2, 3, 4, 6, 8, 63, 64, 65, 66, 67, 68, 69, 70, 71, 72, 73, 74, 75, 76, 77, 78, 79, 80, 81, 82, 83, 84, 85, 86, 87, 88, 89, 90, 91, 92, 93, 94, 95, 96, 97, 98, 99, 100, 101, 102, 103] (by decide +kernel) (by decide +kernel)
set_option maxRecDepth 20000 in
theorem gX13_readThief_X13_takeOne : GoodIn wsX13_readThief (wsV RX13 269 RX13 yX13_takeOne wsX13_takeOne) := goodIn_app (goodIn_of _ (by decide +kernel)) ggX13_readThief_X13_takeOne
set_option maxRecDepth 20000 in
theorem ggX13_readThief_X13_takeAfter : GoodIn wsX13_readThief wsX13_takeAfter := goodIn_r _ [46, 47, 48, 49, 5, 50, 51, 52, 53, 54, 9, 27, 28, 29, 30, 7, 22, 16, 31, 2, 3, 4, 6, 8, 55, 56, 57, 58, 63, 64, 65, 66, 67, 68, 69, 70, 71, 72, 73, 74, 75, 76, 77, 78, 79, 80, 81, 82, 83, 84, 85, 86, 87, 88, 89, 90, 91, 92, 93, 94, 95, 96, 97, 98, 99, 100, 101, 102, 103] (by decide +kernel) (by decide +kernel)
set_option maxRecDepth 20000 in
theorem gX13_readThief_X13_takeAfter : GoodIn wsX13_readThief (wsV RX13 272 RX13 yX13_takeAfter wsX13_takeAfter) := goodIn_app (goodIn_of _ (by decide +kernel)) ggX13_readThief_X13_takeAfter
set_option maxRecDepth 20000 in
theorem ggX13_readThief_X13_takeWord : GoodIn wsX13_readThief wsX13_takeWord := goodIn_r _ [50, 51, 52, 53, 5, 54, 9, 27, 28, 29, 30, 7, 22, 16, 31, 2, 3, 4, 6, 8, 63, 64, 65, 66, 67, 68, 69, 70, 71, 72, 73, 74, 75, 76, 77, 78, 79, 80, 81, 82, 83, 84, 85, 86, 87, 88, 89, 90, 91, 92, 93, 94, 95, 96, 97, 98, 99, 100, 101, 102, 103] (by decide +kernel) (by decide +kernel)
set_option maxRecDepth 20000 in
theorem gX13_readThief_X13_takeWord : GoodIn wsX13_readThief (wsV RX13 207 RX13 yX13_takeWord wsX13_takeWord) := goodIn_app (goodIn_of _ (by decide +kernel)) ggX13_readThief_X13_takeWord
set_option maxRecDepth 20000 in
theorem ggX13_readThief_X13_readHours : GoodIn wsX13_readThief wsX13_readHours := goodIn_r _ [62, 7, 22, 9, 55, 56, 57, 5, 58, 16, 2, 3, 4, 6, 8, 63, 64, 65, 66, 67, 68, 69, 70, 71, 72, 73, 74, 75, 76, 77, 78, 79, 80, 81, 82, 83, 84, 85, 86, 87, 88, 89, 90, 91, 92, 93, 94, 95, 96, 97, 98, 99, 100, 101, 102, 103] (by decide +kernel) (by decide +kernel)
set_option maxRecDepth 20000 in
theorem gX13_readThief_X13_readHours : GoodIn wsX13_readThief (wsV RX13 276 RX13 yX13_readHours wsX13_readHours) := goodIn_app (goodIn_of _ (by decide +kernel)) ggX13_readThief_X13_readHours
theorem dX13_readThief_0 : decode cX13_readThief 0 = .ok (.aload_n 0, 1) := by decide +kernel
theorem dX13_readThief_1 : decode cX13_readThief 1 = .ok (.getfield 95, 3) := by decide +kernel
theorem dX13_readThief_4 : decode cX13_readThief 4 = .ok (.bipush 71, 2) := by decide +kernel
theorem dX13_readThief_6 : decode cX13_readThief 6 = .ok (.iaload, 1) := by decide +kernel
theorem dX13_readThief_7 : decode cX13_readThief 7 = .ok (.istore_n 1, 1) := by decide +kernel
theorem dX13_readThief_8 : decode cX13_readThief 8 = .ok (.iload_n 1, 1) := by decide +kernel
theorem dX13_readThief_9 : decode cX13_readThief 9 = .ok (.iconst 5, 1) := by decide +kernel
theorem dX13_readThief_10 : decode cX13_readThief 10 = .ok (.if_icmp .ne 9, 3) := by decide +kernel
theorem dX13_readThief_13 : decode cX13_readThief 13 = .ok (.aload_n 0, 1) := by decide +kernel
theorem dX13_readThief_14 : decode cX13_readThief 14 = .ok (.iconst 5, 1) := by decide +kernel
theorem dX13_readThief_15 : decode cX13_readThief 15 = .ok (.invokevirtual 198, 3) := by decide +kernel
theorem dX13_readThief_18 : decode cX13_readThief 18 = .ok (.return_, 1) := by decide +kernel
theorem dX13_readThief_19 : decode cX13_readThief 19 = .ok (.aload_n 0, 1) := by decide +kernel
theorem dX13_readThief_20 : decode cX13_readThief 20 = .ok (.bipush 20, 2) := by decide +kernel
theorem dX13_readThief_22 : decode cX13_readThief 22 = .ok (.iload_n 1, 1) := by decide +kernel
theorem dX13_readThief_23 : decode cX13_readThief 23 = .ok (.iadd, 1) := by decide +kernel
theorem dX13_readThief_24 : decode cX13_readThief 24 = .ok (.invokevirtual 266, 3) := by decide +kernel
theorem dX13_readThief_27 : decode cX13_readThief 27 = .ok (.bipush 76, 2) := by decide +kernel
theorem dX13_readThief_29 : decode cX13_readThief 29 = .ok (.iconst 4, 1) := by decide +kernel
theorem dX13_readThief_30 : decode cX13_readThief 30 = .ok (.iload_n 1, 1) := by decide +kernel
theorem dX13_readThief_31 : decode cX13_readThief 31 = .ok (.imul, 1) := by decide +kernel
theorem dX13_readThief_32 : decode cX13_readThief 32 = .ok (.iadd, 1) := by decide +kernel
theorem dX13_readThief_33 : decode cX13_readThief 33 = .ok (.istore_n 2, 1) := by decide +kernel
theorem dX13_readThief_34 : decode cX13_readThief 34 = .ok (.aload_n 0, 1) := by decide +kernel
theorem dX13_readThief_35 : decode cX13_readThief 35 = .ok (.getfield 95, 3) := by decide +kernel
theorem dX13_readThief_38 : decode cX13_readThief 38 = .ok (.iload_n 2, 1) := by decide +kernel
theorem dX13_readThief_39 : decode cX13_readThief 39 = .ok (.aload_n 0, 1) := by decide +kernel
theorem dX13_readThief_40 : decode cX13_readThief 40 = .ok (.bipush 18, 2) := by decide +kernel
theorem dX13_readThief_42 : decode cX13_readThief 42 = .ok (.iconst 4, 1) := by decide +kernel
theorem dX13_readThief_43 : decode cX13_readThief 43 = .ok (.invokevirtual 269, 3) := by decide +kernel
theorem dX13_readThief_46 : decode cX13_readThief 46 = .ok (.iastore, 1) := by decide +kernel
theorem dX13_readThief_47 : decode cX13_readThief 47 = .ok (.aload_n 0, 1) := by decide +kernel
theorem dX13_readThief_48 : decode cX13_readThief 48 = .ok (.getfield 95, 3) := by decide +kernel
theorem dX13_readThief_51 : decode cX13_readThief 51 = .ok (.iload_n 2, 1) := by decide +kernel
theorem dX13_readThief_52 : decode cX13_readThief 52 = .ok (.iconst 1, 1) := by decide +kernel
theorem dX13_readThief_53 : decode cX13_readThief 53 = .ok (.iadd, 1) := by decide +kernel
theorem dX13_readThief_54 : decode cX13_readThief 54 = .ok (.aload_n 0, 1) := by decide +kernel
theorem dX13_readThief_55 : decode cX13_readThief 55 = .ok (.iconst 2, 1) := by decide +kernel
theorem dX13_readThief_56 : decode cX13_readThief 56 = .ok (.iconst 0, 1) := by decide +kernel
theorem dX13_readThief_57 : decode cX13_readThief 57 = .ok (.bipush 99, 2) := by decide +kernel
theorem dX13_readThief_59 : decode cX13_readThief 59 = .ok (.invokevirtual 272, 3) := by decide +kernel
theorem dX13_readThief_62 : decode cX13_readThief 62 = .ok (.iastore, 1) := by decide +kernel
theorem dX13_readThief_63 : decode cX13_readThief 63 = .ok (.aload_n 0, 1) := by decide +kernel
theorem dX13_readThief_64 : decode cX13_readThief 64 = .ok (.getfield 95, 3) := by decide +kernel
theorem dX13_readThief_67 : decode cX13_readThief 67 = .ok (.iload_n 2, 1) := by decide +kernel
theorem dX13_readThief_68 : decode cX13_readThief 68 = .ok (.iconst 2, 1) := by decide +kernel
theorem dX13_readThief_69 : decode cX13_readThief 69 = .ok (.iadd, 1) := by decide +kernel
theorem dX13_readThief_70 : decode cX13_readThief 70 = .ok (.aload_n 0, 1) := by decide +kernel
theorem dX13_readThief_71 : decode cX13_readThief 71 = .ok (.iconst 3, 1) := by decide +kernel
theorem dX13_readThief_72 : decode cX13_readThief 72 = .ok (.iconst 0, 1) := by decide +kernel
theorem dX13_readThief_73 : decode cX13_readThief 73 = .ok (.sipush 999, 3) := by decide +kernel
theorem dX13_readThief_76 : decode cX13_readThief 76 = .ok (.invokevirtual 272, 3) := by decide +kernel
theorem dX13_readThief_79 : decode cX13_readThief 79 = .ok (.iastore, 1) := by decide +kernel
theorem dX13_readThief_80 : decode cX13_readThief 80 = .ok (.aload_n 0, 1) := by decide +kernel
theorem dX13_readThief_81 : decode cX13_readThief 81 = .ok (.iconst 4, 1) := by decide +kernel
theorem dX13_readThief_82 : decode cX13_readThief 82 = .ok (.invokevirtual 207, 3) := by decide +kernel
theorem dX13_readThief_85 : decode cX13_readThief 85 = .ok (.aload_n 0, 1) := by decide +kernel
theorem dX13_readThief_86 : decode cX13_readThief 86 = .ok (.getfield 95, 3) := by decide +kernel
theorem dX13_readThief_89 : decode cX13_readThief 89 = .ok (.iload_n 2, 1) := by decide +kernel
theorem dX13_readThief_90 : decode cX13_readThief 90 = .ok (.iconst 3, 1) := by decide +kernel
theorem dX13_readThief_91 : decode cX13_readThief 91 = .ok (.iadd, 1) := by decide +kernel
theorem dX13_readThief_92 : decode cX13_readThief 92 = .ok (.aload_n 0, 1) := by decide +kernel
theorem dX13_readThief_93 : decode cX13_readThief 93 = .ok (.invokevirtual 276, 3) := by decide +kernel
theorem dX13_readThief_96 : decode cX13_readThief 96 = .ok (.iastore, 1) := by decide +kernel
theorem dX13_readThief_97 : decode cX13_readThief 97 = .ok (.aload_n 0, 1) := by decide +kernel
theorem dX13_readThief_98 : decode cX13_readThief 98 = .ok (.getfield 95, 3) := by decide +kernel
theorem dX13_readThief_101 : decode cX13_readThief 101 = .ok (.bipush 71, 2) := by decide +kernel
theorem dX13_readThief_103 : decode cX13_readThief 103 = .ok (.dup2, 1) := by decide +kernel
theorem dX13_readThief_104 : decode cX13_readThief 104 = .ok (.iaload, 1) := by decide +kernel
theorem dX13_readThief_105 : decode cX13_readThief 105 = .ok (.iconst 1, 1) := by decide +kernel
theorem dX13_readThief_106 : decode cX13_readThief 106 = .ok (.iadd, 1) := by decide +kernel
theorem dX13_readThief_107 : decode cX13_readThief 107 = .ok (.iastore, 1) := by decide +kernel
theorem dX13_readThief_108 : decode cX13_readThief 108 = .ok (.return_, 1) := by decide +kernel
set_option maxRecDepth 20000 in
theorem ggX13_readHours_X13_takeNumber : GoodIn wsX13_readHours wsX13_takeNumber := goodIn_r _ [8, 1, 2, 3, 9, 10, 11, 12, 7, 13, 14, 15, 16, 17, 18, 19, 20, 21, 22, 23, 24, 25, 26, 27, 28, 29, 30, 31, 32, 33, 34, 35, 36, 37, 38, 39, 40, 41, 42, 43, 44, 45, 46, 47, 48, 49, 50, 51, 52, 53, 54, 55] (by decide +kernel) (by decide +kernel)
set_option maxRecDepth 20000 in
theorem gX13_readHours_X13_takeNumber : GoodIn wsX13_readHours (wsV RX13 210 RX13 yX13_takeNumber wsX13_takeNumber) := goodIn_app (goodIn_of _ (by decide +kernel)) ggX13_readHours_X13_takeNumber
set_option maxRecDepth 20000 in
theorem ggX13_readHours_X13_wrong : GoodIn wsX13_readHours wsX13_wrong := goodIn_r _ [13, 1, 14, 3, 15, 16, 17, 18, 19, 20, 21, 22, 23, 24, 25, 26, 27, 28, 29, 30, 31, 32, 33, 34, 35, 36, 37, 38, 39, 40, 41, 42, 43, 44, 45, 46, 47, 48, 49, 50, 51, 52, 53, 54, 55] (by decide +kernel) (by decide +kernel)
set_option maxRecDepth 20000 in
theorem gX13_readHours_X13_wrong : GoodIn wsX13_readHours (wsV RX13 198 RX13 yX13_wrong wsX13_wrong) := goodIn_app (goodIn_of _ (by decide +kernel)) ggX13_readHours_X13_wrong
theorem dX13_readHours_0 : decode cX13_readHours 0 = .ok (.iconst 0, 1) := by decide +kernel
theorem dX13_readHours_1 : decode cX13_readHours 1 = .ok (.istore_n 1, 1) := by decide +kernel
theorem dX13_readHours_2 : decode cX13_readHours 2 = .ok (.iconst 0, 1) := by decide +kernel
theorem dX13_readHours_3 : decode cX13_readHours 3 = .ok (.istore_n 2, 1) := by decide +kernel
theorem dX13_readHours_4 : decode cX13_readHours 4 = .ok (.aload_n 0, 1) := by decide +kernel
theorem dX13_readHours_5 : decode cX13_readHours 5 = .ok (.getfield 192, 3) := by decide +kernel
theorem dX13_readHours_8 : decode cX13_readHours 8 = .ok (.ifCond .ne 89, 3) := by decide +kernel
theorem dX13_readHours_11 : decode cX13_readHours 11 = .ok (.iload_n 2, 1) := by decide +kernel
theorem dX13_readHours_12 : decode cX13_readHours 12 = .ok (.ifCond .eq 16, 3) := by decide +kernel
theorem dX13_readHours_15 : decode cX13_readHours 15 = .ok (.aload_n 0, 1) := by decide +kernel
theorem dX13_readHours_16 : decode cX13_readHours 16 = .ok (.getfield 24, 3) := by decide +kernel
theorem dX13_readHours_19 : decode cX13_readHours 19 = .ok (.aload_n 0, 1) := by decide +kernel
theorem dX13_readHours_20 : decode cX13_readHours 20 = .ok (.getfield 189, 3) := by decide +kernel
theorem dX13_readHours_23 : decode cX13_readHours 23 = .ok (.iaload, 1) := by decide +kernel
theorem dX13_readHours_24 : decode cX13_readHours 24 = .ok (.iconst 2, 1) := by decide +kernel
theorem dX13_readHours_25 : decode cX13_readHours 25 = .ok (.if_icmp .ne 72, 3) := by decide +kernel
theorem dX13_readHours_28 : decode cX13_readHours 28 = .ok (.aload_n 0, 1) := by decide +kernel
theorem dX13_readHours_29 : decode cX13_readHours 29 = .ok (.iconst 0, 1) := by decide +kernel
theorem dX13_readHours_30 : decode cX13_readHours 30 = .ok (.bipush 23, 2) := by decide +kernel
theorem dX13_readHours_32 : decode cX13_readHours 32 = .ok (.invokevirtual 210, 3) := by decide +kernel
theorem dX13_readHours_35 : decode cX13_readHours 35 = .ok (.istore_n 3, 1) := by decide +kernel
theorem dX13_readHours_36 : decode cX13_readHours 36 = .ok (.aload_n 0, 1) := by decide +kernel
theorem dX13_readHours_37 : decode cX13_readHours 37 = .ok (.getfield 192, 3) := by decide +kernel
theorem dX13_readHours_40 : decode cX13_readHours 40 = .ok (.ifCond .ne 45, 3) := by decide +kernel
theorem dX13_readHours_43 : decode cX13_readHours 43 = .ok (.iload_n 1, 1) := by decide +kernel
theorem dX13_readHours_44 : decode cX13_readHours 44 = .ok (.iload_n 3, 1) := by decide +kernel
theorem dX13_readHours_45 : decode cX13_readHours 45 = .ok (.ishr, 1) := by decide +kernel
theorem dX13_readHours_46 : decode cX13_readHours 46 = .ok (.iconst 1, 1) := by decide +kernel
theorem dX13_readHours_47 : decode cX13_readHours 47 = .ok (.iand, 1) := by decide +kernel
theorem dX13_readHours_48 : decode cX13_readHours 48 = .ok (.iconst 1, 1) := by decide +kernel
theorem dX13_readHours_49 : decode cX13_readHours 49 = .ok (.if_icmp .eq 8, 3) := by decide +kernel
theorem dX13_readHours_52 : decode cX13_readHours 52 = .ok (.iload_n 2, 1) := by decide +kernel
theorem dX13_readHours_53 : decode cX13_readHours 53 = .ok (.iconst 4, 1) := by decide +kernel
theorem dX13_readHours_54 : decode cX13_readHours 54 = .ok (.if_icmp .ne 31, 3) := by decide +kernel
theorem dX13_readHours_57 : decode cX13_readHours 57 = .ok (.aload_n 0, 1) := by decide +kernel
theorem dX13_readHours_58 : decode cX13_readHours 58 = .ok (.dup, 1) := by decide +kernel
theorem dX13_readHours_59 : decode cX13_readHours 59 = .ok (.getfield 189, 3) := by decide +kernel
theorem dX13_readHours_62 : decode cX13_readHours 62 = .ok (.iconst 1, 1) := by decide +kernel
theorem dX13_readHours_63 : decode cX13_readHours 63 = .ok (.isub, 1) := by decide +kernel
theorem dX13_readHours_64 : decode cX13_readHours 64 = .ok (.putfield 189, 3) := by decide +kernel
theorem dX13_readHours_67 : decode cX13_readHours 67 = .ok (.aload_n 0, 1) := by decide +kernel
theorem dX13_readHours_68 : decode cX13_readHours 68 = .ok (.iload_n 1, 1) := by decide +kernel
theorem dX13_readHours_69 : decode cX13_readHours 69 = .ok (.iload_n 3, 1) := by decide +kernel
theorem dX13_readHours_70 : decode cX13_readHours 70 = .ok (.ishr, 1) := by decide +kernel
theorem dX13_readHours_71 : decode cX13_readHours 71 = .ok (.iconst 1, 1) := by decide +kernel
theorem dX13_readHours_72 : decode cX13_readHours 72 = .ok (.iand, 1) := by decide +kernel
theorem dX13_readHours_73 : decode cX13_readHours 73 = .ok (.iconst 1, 1) := by decide +kernel
theorem dX13_readHours_74 : decode cX13_readHours 74 = .ok (.if_icmp .ne 7, 3) := by decide +kernel
theorem dX13_readHours_77 : decode cX13_readHours 77 = .ok (.iconst 3, 1) := by decide +kernel
theorem dX13_readHours_78 : decode cX13_readHours 78 = .ok (.goto 4, 3) := by decide +kernel
theorem dX13_readHours_81 : decode cX13_readHours 81 = .ok (.iconst 5, 1) := by decide +kernel
theorem dX13_readHours_82 : decode cX13_readHours 82 = .ok (.invokevirtual 198, 3) := by decide +kernel
theorem dX13_readHours_85 : decode cX13_readHours 85 = .ok (.iload_n 1, 1) := by decide +kernel
theorem dX13_readHours_86 : decode cX13_readHours 86 = .ok (.iconst 1, 1) := by decide +kernel
theorem dX13_readHours_87 : decode cX13_readHours 87 = .ok (.iload_n 3, 1) := by decide +kernel
theorem dX13_readHours_88 : decode cX13_readHours 88 = .ok (.ishl, 1) := by decide +kernel
theorem dX13_readHours_89 : decode cX13_readHours 89 = .ok (.ior, 1) := by decide +kernel
theorem dX13_readHours_90 : decode cX13_readHours 90 = .ok (.istore_n 1, 1) := by decide +kernel
theorem dX13_readHours_91 : decode cX13_readHours 91 = .ok (.iinc 2 1, 3) := by decide +kernel
theorem dX13_readHours_94 : decode cX13_readHours 94 = .ok (.goto (-90), 3) := by decide +kernel
theorem dX13_readHours_97 : decode cX13_readHours 97 = .ok (.iload_n 1, 1) := by decide +kernel
theorem dX13_readHours_98 : decode cX13_readHours 98 = .ok (.ireturn, 1) := by decide +kernel
set_option maxRecDepth 20000 in
theorem ggX13_readSpots_X13_isName : GoodIn wsX13_readSpots wsX13_isName := goodIn_r _ [7, 1, 8, 2, 9, 10, 11, 6, 12, 13, 14, 15, 16, 17, 18, 41, 42, 43, 44, 45, 46, 47, 48, 49, 50, 51, 52, 53, 54, 55, 56, 57, 58, 59, 60, 61, 62, 63, 64, 65, 66, 67, 68, 69, 70, 71, 72, 73, 74, 75, 76, 77, 78, 79, 80, 81] (by decide +kernel) (by decide +kernel)
set_option maxRecDepth 20000 in
theorem gX13_readSpots_X13_isName : GoodIn wsX13_readSpots (wsV RX13 223 RX13 yX13_isName wsX13_isName) := goodIn_app (goodIn_of _ (by decide +kernel)) ggX13_readSpots_X13_isName
set_option maxRecDepth 20000 in
theorem ggX13_readSpots_X13_toldHere : GoodIn wsX13_readSpots wsX13_toldHere := goodIn_r _ [22, 1, 3, 4, 5, 6, 7, 8, 2, 9, 10, 11, 12, 13, 14, 15, 16, 17, 18, 23, 24, 25, 26, 27, 28, 29, 30, 31, 32, 33, 34, 35, 36, 37, 38, 39, 40, 41, 42, 43, 44, 45, 46, 47, 48, 49, 50, 51, 52, 53, 54, 55, 56, 57, 58, 59, 60, 61, 62, 63, 64, 65, 66, 67, 68, 69, 70, 71, 72, 73, 74, 75, 76, 77, 78, 79, 80, 81] (by decide +kernel) (by decide +kernel)
set_option maxRecDepth 20000 in
theorem gX13_readSpots_X13_toldHere : GoodIn wsX13_readSpots (wsV RX13 235 RX13 yX13_toldHere wsX13_toldHere) := goodIn_app (goodIn_of _ (by decide +kernel)) ggX13_readSpots_X13_toldHere
set_option maxRecDepth 20000 in
theorem ggX13_readSpots_X13_wrong : GoodIn wsX13_readSpots wsX13_wrong := goodIn_r _ [26, 1, 27, 2, 41, 42, 43, 44, 45, 46, 47, 48, 49, 50, 51, 52, 53, 54, 55, 56, 57, 58, 59, 60, 61, 62, 63, 64, 65, 66, 67, 68, 69, 70, 71, 72, 73, 74, 75, 76, 77, 78, 79, 80, 81] (by decide +kernel) (by decide +kernel)
set_option maxRecDepth 20000 in
theorem gX13_readSpots_X13_wrong : GoodIn wsX13_readSpots (wsV RX13 198 RX13 yX13_wrong wsX13_wrong) := goodIn_app (goodIn_of _ (by decide +kernel)) ggX13_readSpots_X13_wrong
theorem dX13_readSpots_0 : decode cX13_readSpots 0 = .ok (.iconst 0, 1) := by decide +kernel
theorem dX13_readSpots_1 : decode cX13_readSpots 1 = .ok (.istore_n 2, 1) := by decide +kernel
theorem dX13_readSpots_2 : decode cX13_readSpots 2 = .ok (.iconst 0, 1) := by decide +kernel
theorem dX13_readSpots_3 : decode cX13_readSpots 3 = .ok (.istore_n 3, 1) := by decide +kernel
theorem dX13_readSpots_4 : decode cX13_readSpots 4 = .ok (.aload_n 0, 1) := by decide +kernel
theorem dX13_readSpots_5 : decode cX13_readSpots 5 = .ok (.getfield 192, 3) := by decide +kernel
theorem dX13_readSpots_8 : decode cX13_readSpots 8 = .ok (.ifCond .ne 97, 3) := by decide +kernel
theorem dX13_readSpots_11 : decode cX13_readSpots 11 = .ok (.iload_n 3, 1) := by decide +kernel
theorem dX13_readSpots_12 : decode cX13_readSpots 12 = .ok (.ifCond .eq 10, 3) := by decide +kernel
theorem dX13_readSpots_15 : decode cX13_readSpots 15 = .ok (.aload_n 0, 1) := by decide +kernel
theorem dX13_readSpots_16 : decode cX13_readSpots 16 = .ok (.invokevirtual 223, 3) := by decide +kernel
theorem dX13_readSpots_19 : decode cX13_readSpots 19 = .ok (.ifCond .eq 86, 3) := by decide +kernel
theorem dX13_readSpots_22 : decode cX13_readSpots 22 = .ok (.aload_n 0, 1) := by decide +kernel
theorem dX13_readSpots_23 : decode cX13_readSpots 23 = .ok (.iconst 1, 1) := by decide +kernel
theorem dX13_readSpots_24 : decode cX13_readSpots 24 = .ok (.iconst 0, 1) := by decide +kernel
theorem dX13_readSpots_25 : decode cX13_readSpots 25 = .ok (.invokevirtual 235, 3) := by decide +kernel
theorem dX13_readSpots_28 : decode cX13_readSpots 28 = .ok (.istore 4, 2) := by decide +kernel
theorem dX13_readSpots_30 : decode cX13_readSpots 30 = .ok (.aload_n 0, 1) := by decide +kernel
theorem dX13_readSpots_31 : decode cX13_readSpots 31 = .ok (.getfield 192, 3) := by decide +kernel
theorem dX13_readSpots_34 : decode cX13_readSpots 34 = .ok (.ifCond .ne 37, 3) := by decide +kernel
theorem dX13_readSpots_37 : decode cX13_readSpots 37 = .ok (.iload_n 2, 1) := by decide +kernel
theorem dX13_readSpots_38 : decode cX13_readSpots 38 = .ok (.iload 4, 2) := by decide +kernel
theorem dX13_readSpots_40 : decode cX13_readSpots 40 = .ok (.ishr, 1) := by decide +kernel
theorem dX13_readSpots_41 : decode cX13_readSpots 41 = .ok (.iconst 1, 1) := by decide +kernel
theorem dX13_readSpots_42 : decode cX13_readSpots 42 = .ok (.iand, 1) := by decide +kernel
theorem dX13_readSpots_43 : decode cX13_readSpots 43 = .ok (.iconst 1, 1) := by decide +kernel
theorem dX13_readSpots_44 : decode cX13_readSpots 44 = .ok (.if_icmp .eq 8, 3) := by decide +kernel
theorem dX13_readSpots_47 : decode cX13_readSpots 47 = .ok (.iload_n 3, 1) := by decide +kernel
theorem dX13_readSpots_48 : decode cX13_readSpots 48 = .ok (.iload_n 1, 1) := by decide +kernel
theorem dX13_readSpots_49 : decode cX13_readSpots 49 = .ok (.if_icmp .ne 22, 3) := by decide +kernel
theorem dX13_readSpots_52 : decode cX13_readSpots 52 = .ok (.aload_n 0, 1) := by decide +kernel
theorem dX13_readSpots_53 : decode cX13_readSpots 53 = .ok (.iload_n 2, 1) := by decide +kernel
theorem dX13_readSpots_54 : decode cX13_readSpots 54 = .ok (.iload 4, 2) := by decide +kernel
theorem dX13_readSpots_56 : decode cX13_readSpots 56 = .ok (.ishr, 1) := by decide +kernel
theorem dX13_readSpots_57 : decode cX13_readSpots 57 = .ok (.iconst 1, 1) := by decide +kernel
theorem dX13_readSpots_58 : decode cX13_readSpots 58 = .ok (.iand, 1) := by decide +kernel
theorem dX13_readSpots_59 : decode cX13_readSpots 59 = .ok (.iconst 1, 1) := by decide +kernel
theorem dX13_readSpots_60 : decode cX13_readSpots 60 = .ok (.if_icmp .ne 7, 3) := by decide +kernel
theorem dX13_readSpots_63 : decode cX13_readSpots 63 = .ok (.iconst 3, 1) := by decide +kernel
theorem dX13_readSpots_64 : decode cX13_readSpots 64 = .ok (.goto 4, 3) := by decide +kernel
theorem dX13_readSpots_67 : decode cX13_readSpots 67 = .ok (.iconst 5, 1) := by decide +kernel
theorem dX13_readSpots_68 : decode cX13_readSpots 68 = .ok (.invokevirtual 198, 3) := by decide +kernel
theorem dX13_readSpots_71 : decode cX13_readSpots 71 = .ok (.aload_n 0, 1) := by decide +kernel
theorem dX13_readSpots_72 : decode cX13_readSpots 72 = .ok (.dup, 1) := by decide +kernel
theorem dX13_readSpots_73 : decode cX13_readSpots 73 = .ok (.getfield 189, 3) := by decide +kernel
theorem dX13_readSpots_76 : decode cX13_readSpots 76 = .ok (.aload_n 0, 1) := by decide +kernel
theorem dX13_readSpots_77 : decode cX13_readSpots 77 = .ok (.getfield 192, 3) := by decide +kernel
theorem dX13_readSpots_80 : decode cX13_readSpots 80 = .ok (.ifCond .le 7, 3) := by decide +kernel
theorem dX13_readSpots_83 : decode cX13_readSpots 83 = .ok (.iconst 0, 1) := by decide +kernel
theorem dX13_readSpots_84 : decode cX13_readSpots 84 = .ok (.goto 4, 3) := by decide +kernel
theorem dX13_readSpots_87 : decode cX13_readSpots 87 = .ok (.iconst 1, 1) := by decide +kernel
theorem dX13_readSpots_88 : decode cX13_readSpots 88 = .ok (.iadd, 1) := by decide +kernel
theorem dX13_readSpots_89 : decode cX13_readSpots 89 = .ok (.putfield 189, 3) := by decide +kernel
theorem dX13_readSpots_92 : decode cX13_readSpots 92 = .ok (.iload_n 2, 1) := by decide +kernel
theorem dX13_readSpots_93 : decode cX13_readSpots 93 = .ok (.iconst 1, 1) := by decide +kernel
theorem dX13_readSpots_94 : decode cX13_readSpots 94 = .ok (.iload 4, 2) := by decide +kernel
theorem dX13_readSpots_96 : decode cX13_readSpots 96 = .ok (.ishl, 1) := by decide +kernel
theorem dX13_readSpots_97 : decode cX13_readSpots 97 = .ok (.ior, 1) := by decide +kernel
theorem dX13_readSpots_98 : decode cX13_readSpots 98 = .ok (.istore_n 2, 1) := by decide +kernel
theorem dX13_readSpots_99 : decode cX13_readSpots 99 = .ok (.iinc 3 1, 3) := by decide +kernel
theorem dX13_readSpots_102 : decode cX13_readSpots 102 = .ok (.goto (-98), 3) := by decide +kernel
theorem dX13_readSpots_105 : decode cX13_readSpots 105 = .ok (.iload_n 2, 1) := by decide +kernel
theorem dX13_readSpots_106 : decode cX13_readSpots 106 = .ok (.ireturn, 1) := by decide +kernel
theorem dX13_firstOf_0 : decode cX13_firstOf 0 = .ok (.iconst 0, 1) := by decide +kernel
theorem dX13_firstOf_1 : decode cX13_firstOf 1 = .ok (.istore_n 1, 1) := by decide +kernel
theorem dX13_firstOf_2 : decode cX13_firstOf 2 = .ok (.iload_n 1, 1) := by decide +kernel
theorem dX13_firstOf_3 : decode cX13_firstOf 3 = .ok (.bipush 29, 2) := by decide +kernel
theorem dX13_firstOf_5 : decode cX13_firstOf 5 = .ok (.if_icmp .ge 17, 3) := by decide +kernel
theorem dX13_firstOf_8 : decode cX13_firstOf 8 = .ok (.iload_n 0, 1) := by decide +kernel
theorem dX13_firstOf_9 : decode cX13_firstOf 9 = .ok (.iload_n 1, 1) := by decide +kernel
theorem dX13_firstOf_10 : decode cX13_firstOf 10 = .ok (.ishr, 1) := by decide +kernel
theorem dX13_firstOf_11 : decode cX13_firstOf 11 = .ok (.iconst 1, 1) := by decide +kernel
theorem dX13_firstOf_12 : decode cX13_firstOf 12 = .ok (.iand, 1) := by decide +kernel
theorem dX13_firstOf_13 : decode cX13_firstOf 13 = .ok (.ifCond .ne 9, 3) := by decide +kernel
theorem dX13_firstOf_16 : decode cX13_firstOf 16 = .ok (.iinc 1 1, 3) := by decide +kernel
theorem dX13_firstOf_19 : decode cX13_firstOf 19 = .ok (.goto (-17), 3) := by decide +kernel
theorem dX13_firstOf_22 : decode cX13_firstOf 22 = .ok (.iload_n 1, 1) := by decide +kernel
theorem dX13_firstOf_23 : decode cX13_firstOf 23 = .ok (.ireturn, 1) := by decide +kernel
set_option maxRecDepth 20000 in
theorem ggX13_readCopy_X13_wrong : GoodIn wsX13_readCopy wsX13_wrong := goodIn_r _ [7, 8, 9, 2, 69, 70, 71, 72, 73, 74, 75, 76, 77, 78, 79, 80, 81, 82, 83, 84, 85, 86, 87, 88, 89, 90, 91, 92, 93, 94, 95, 96, 97, 98, 99, 100, 101, 102, 103, 104, 105, 106, 107, 108, 109] (by decide +kernel) (by decide +kernel)
set_option maxRecDepth 20000 in
theorem gX13_readCopy_X13_wrong : GoodIn wsX13_readCopy (wsV RX13 198 RX13 yX13_wrong wsX13_wrong) := goodIn_app (goodIn_of _ (by decide +kernel)) ggX13_readCopy_X13_wrong
set_option maxRecDepth 20000 in
theorem ggX13_readCopy_X13_takeAfter : GoodIn wsX13_readCopy wsX13_takeAfter := goodIn_r _ [13, 14, 15, 16, 6, 17, 18, 19, 20, 21, 2, 22, 23, 24, 25, 8, 26, 27, 28, 3, 4, 5, 7, 9, 29, 30, 31, 32, 69, 70, 71, 72, 73, 74, 75, 76, 77, 78, 79, 80, 81, 82, 83, 84, 85, 86, 87, 88, 89, 90, 91, 92, 93, 94, 95, 96, 97, 98, 99, 100, 101, 102, 103, 104, 105, 106, 107, 108, 109] (by decide +kernel) (by decide +kernel)
set_option maxRecDepth 20000 in
theorem gX13_readCopy_X13_takeAfter : GoodIn wsX13_readCopy (wsV RX13 272 RX13 yX13_takeAfter wsX13_takeAfter) := goodIn_app (goodIn_of _ (by decide +kernel)) ggX13_readCopy_X13_takeAfter
set_option maxRecDepth 20000 in
theorem ggX13_readCopy_X13_takeWord : GoodIn wsX13_readCopy wsX13_takeWord := goodIn_r _ [17, 18, 19, 20, 6, 21, 2, 22, 23, 24, 25, 8, 26, 27, 28, 3, 4, 5, 7, 9, 69, 70, 71, 72, 73, 74, 75, 76, 77, 78, 79, 80, 81, 82, 83, 84, 85, 86, 87, 88, 89, 90, 91, 92, 93, 94, 95, 96, 97, 98, 99, 100, 101, 102, 103, 104, 105, 106, 107, 108, 109] (by decide +kernel) (by decide +kernel)
set_option maxRecDepth 20000 in
theorem gX13_readCopy_X13_takeWord : GoodIn wsX13_readCopy (wsV RX13 207 RX13 yX13_takeWord wsX13_takeWord) := goodIn_app (goodIn_of _ (by decide +kernel)) ggX13_readCopy_X13_takeWord
set_option maxRecDepth 20000 in
theorem ggX13_readCopy_X13_readSpots : GoodIn wsX13_readCopy wsX13_readSpots := goodIn_r _ [36, 8, 2, 37, 38, 39, 6, 40, 26, 41, 42, 43, 44, 22, 23, 24, 25, 27, 28, 45, 46, 47, 48, 3, 4, 5, 7, 9, 49, 50, 51, 52, 53, 54, 55, 56, 57, 58, 59, 60, 61, 69, 70, 71, 72, 73, 74, 75, 76, 77, 78, 79, 80, 81, 82, 83, 84, 85, 86, 87, 88, 89, 90, 91, 92, 93, 94, 95, 96, 97, 98, 99, 100, 101, 102, 103, 104, 105, 106, 107, 108, 109] (by decide +kernel) (by decide +kernel)
set_option maxRecDepth 20000 in
theorem gX13_readCopy_X13_readSpots : GoodIn wsX13_readCopy (wsV RX13 280 RX13 yX13_readSpots wsX13_readSpots) := goodIn_app (goodIn_of _ (by decide +kernel)) ggX13_readCopy_X13_readSpots
set_option maxRecDepth 20000 in
theorem ggX13_readCopy_X13_firstOf : GoodIn wsX13_readCopy wsX13_firstOf := goodIn_r _ [64] (by decide +kernel) (by decide +kernel)
set_option maxRecDepth 20000 in
theorem gX13_readCopy_X13_firstOf : GoodIn wsX13_readCopy (va_wsS RX13 283 yX13_firstOf wsX13_firstOf) := goodIn_app (goodIn_of _ (by decide +kernel)) ggX13_readCopy_X13_firstOf
set_option maxRecDepth 20000 in
theorem ggX13_readCopy_X13_takeTold : GoodIn wsX13_readCopy wsX13_takeTold := goodIn_r _ [68, 2, 8, 45, 46, 47, 6, 48, 37, 38, 39, 40, 26, 41, 42, 43, 44, 22, 23, 24, 25, 27, 28, 3, 4, 5, 7, 9, 49, 50, 51, 52, 53, 54, 55, 56, 57, 58, 59, 60, 61, 69, 70, 71, 72, 73, 74, 75, 76, 77, 78, 79, 80, 81, 82, 83, 84, 85, 86, 87, 88, 89, 90, 91, 92, 93, 94, 95, 96, 97, 98, 99, 100, 101, 102, 103, 104, 105, 106, 107, 108, 109] (by decide +kernel) (by decide +kernel)
set_option maxRecDepth 20000 in
theorem gX13_readCopy_X13_takeTold : GoodIn wsX13_readCopy (wsV RX13 286 RX13 yX13_takeTold wsX13_takeTold) := goodIn_app (goodIn_of _ (by decide +kernel)) ggX13_readCopy_X13_takeTold
theorem dX13_readCopy_0 : decode cX13_readCopy 0 = .ok (.aload_n 0, 1) := by decide +kernel
theorem dX13_readCopy_1 : decode cX13_readCopy 1 = .ok (.getfield 95, 3) := by decide +kernel
theorem dX13_readCopy_4 : decode cX13_readCopy 4 = .ok (.bipush 73, 2) := by decide +kernel
theorem dX13_readCopy_6 : decode cX13_readCopy 6 = .ok (.iaload, 1) := by decide +kernel
theorem dX13_readCopy_7 : decode cX13_readCopy 7 = .ok (.istore_n 1, 1) := by decide +kernel
theorem dX13_readCopy_8 : decode cX13_readCopy 8 = .ok (.iload_n 1, 1) := by decide +kernel
theorem dX13_readCopy_9 : decode cX13_readCopy 9 = .ok (.bipush 8, 2) := by decide +kernel
theorem dX13_readCopy_11 : decode cX13_readCopy 11 = .ok (.if_icmp .ne 9, 3) := by decide +kernel
theorem dX13_readCopy_14 : decode cX13_readCopy 14 = .ok (.aload_n 0, 1) := by decide +kernel
theorem dX13_readCopy_15 : decode cX13_readCopy 15 = .ok (.iconst 5, 1) := by decide +kernel
theorem dX13_readCopy_16 : decode cX13_readCopy 16 = .ok (.invokevirtual 198, 3) := by decide +kernel
theorem dX13_readCopy_19 : decode cX13_readCopy 19 = .ok (.return_, 1) := by decide +kernel
theorem dX13_readCopy_20 : decode cX13_readCopy 20 = .ok (.aload_n 0, 1) := by decide +kernel
theorem dX13_readCopy_21 : decode cX13_readCopy 21 = .ok (.dup, 1) := by decide +kernel
theorem dX13_readCopy_22 : decode cX13_readCopy 22 = .ok (.getfield 189, 3) := by decide +kernel
theorem dX13_readCopy_25 : decode cX13_readCopy 25 = .ok (.iconst 1, 1) := by decide +kernel
theorem dX13_readCopy_26 : decode cX13_readCopy 26 = .ok (.iadd, 1) := by decide +kernel
theorem dX13_readCopy_27 : decode cX13_readCopy 27 = .ok (.putfield 189, 3) := by decide +kernel
theorem dX13_readCopy_30 : decode cX13_readCopy 30 = .ok (.bipush 100, 2) := by decide +kernel
theorem dX13_readCopy_32 : decode cX13_readCopy 32 = .ok (.iconst 4, 1) := by decide +kernel
theorem dX13_readCopy_33 : decode cX13_readCopy 33 = .ok (.iload_n 1, 1) := by decide +kernel
theorem dX13_readCopy_34 : decode cX13_readCopy 34 = .ok (.imul, 1) := by decide +kernel
theorem dX13_readCopy_35 : decode cX13_readCopy 35 = .ok (.iadd, 1) := by decide +kernel
theorem dX13_readCopy_36 : decode cX13_readCopy 36 = .ok (.istore_n 2, 1) := by decide +kernel
theorem dX13_readCopy_37 : decode cX13_readCopy 37 = .ok (.aload_n 0, 1) := by decide +kernel
theorem dX13_readCopy_38 : decode cX13_readCopy 38 = .ok (.getfield 95, 3) := by decide +kernel
theorem dX13_readCopy_41 : decode cX13_readCopy 41 = .ok (.iload_n 2, 1) := by decide +kernel
theorem dX13_readCopy_42 : decode cX13_readCopy 42 = .ok (.aload_n 0, 1) := by decide +kernel
theorem dX13_readCopy_43 : decode cX13_readCopy 43 = .ok (.bipush 6, 2) := by decide +kernel
theorem dX13_readCopy_45 : decode cX13_readCopy 45 = .ok (.iconst 0, 1) := by decide +kernel
theorem dX13_readCopy_46 : decode cX13_readCopy 46 = .ok (.iload_n 1, 1) := by decide +kernel
theorem dX13_readCopy_47 : decode cX13_readCopy 47 = .ok (.iconst 1, 1) := by decide +kernel
theorem dX13_readCopy_48 : decode cX13_readCopy 48 = .ok (.isub, 1) := by decide +kernel
theorem dX13_readCopy_49 : decode cX13_readCopy 49 = .ok (.invokevirtual 272, 3) := by decide +kernel
theorem dX13_readCopy_52 : decode cX13_readCopy 52 = .ok (.iastore, 1) := by decide +kernel
theorem dX13_readCopy_53 : decode cX13_readCopy 53 = .ok (.aload_n 0, 1) := by decide +kernel
theorem dX13_readCopy_54 : decode cX13_readCopy 54 = .ok (.bipush 7, 2) := by decide +kernel
theorem dX13_readCopy_56 : decode cX13_readCopy 56 = .ok (.invokevirtual 207, 3) := by decide +kernel
theorem dX13_readCopy_59 : decode cX13_readCopy 59 = .ok (.aload_n 0, 1) := by decide +kernel
theorem dX13_readCopy_60 : decode cX13_readCopy 60 = .ok (.getfield 95, 3) := by decide +kernel
theorem dX13_readCopy_63 : decode cX13_readCopy 63 = .ok (.iload_n 2, 1) := by decide +kernel
theorem dX13_readCopy_64 : decode cX13_readCopy 64 = .ok (.iconst 1, 1) := by decide +kernel
theorem dX13_readCopy_65 : decode cX13_readCopy 65 = .ok (.iadd, 1) := by decide +kernel
theorem dX13_readCopy_66 : decode cX13_readCopy 66 = .ok (.aload_n 0, 1) := by decide +kernel
theorem dX13_readCopy_67 : decode cX13_readCopy 67 = .ok (.iconst 3, 1) := by decide +kernel
theorem dX13_readCopy_68 : decode cX13_readCopy 68 = .ok (.invokevirtual 280, 3) := by decide +kernel
theorem dX13_readCopy_71 : decode cX13_readCopy 71 = .ok (.iastore, 1) := by decide +kernel
theorem dX13_readCopy_72 : decode cX13_readCopy 72 = .ok (.aload_n 0, 1) := by decide +kernel
theorem dX13_readCopy_73 : decode cX13_readCopy 73 = .ok (.getfield 95, 3) := by decide +kernel
theorem dX13_readCopy_76 : decode cX13_readCopy 76 = .ok (.iload_n 2, 1) := by decide +kernel
theorem dX13_readCopy_77 : decode cX13_readCopy 77 = .ok (.iconst 2, 1) := by decide +kernel
theorem dX13_readCopy_78 : decode cX13_readCopy 78 = .ok (.iadd, 1) := by decide +kernel
theorem dX13_readCopy_79 : decode cX13_readCopy 79 = .ok (.aload_n 0, 1) := by decide +kernel
theorem dX13_readCopy_80 : decode cX13_readCopy 80 = .ok (.getfield 95, 3) := by decide +kernel
theorem dX13_readCopy_83 : decode cX13_readCopy 83 = .ok (.iload_n 2, 1) := by decide +kernel
theorem dX13_readCopy_84 : decode cX13_readCopy 84 = .ok (.iconst 1, 1) := by decide +kernel
theorem dX13_readCopy_85 : decode cX13_readCopy 85 = .ok (.iadd, 1) := by decide +kernel
theorem dX13_readCopy_86 : decode cX13_readCopy 86 = .ok (.iaload, 1) := by decide +kernel
theorem dX13_readCopy_87 : decode cX13_readCopy 87 = .ok (.invokestatic 283, 3) := by decide +kernel
theorem dX13_readCopy_90 : decode cX13_readCopy 90 = .ok (.iastore, 1) := by decide +kernel
theorem dX13_readCopy_91 : decode cX13_readCopy 91 = .ok (.aload_n 0, 1) := by decide +kernel
theorem dX13_readCopy_92 : decode cX13_readCopy 92 = .ok (.bipush 8, 2) := by decide +kernel
theorem dX13_readCopy_94 : decode cX13_readCopy 94 = .ok (.invokevirtual 207, 3) := by decide +kernel
theorem dX13_readCopy_97 : decode cX13_readCopy 97 = .ok (.aload_n 0, 1) := by decide +kernel
theorem dX13_readCopy_98 : decode cX13_readCopy 98 = .ok (.getfield 95, 3) := by decide +kernel
theorem dX13_readCopy_101 : decode cX13_readCopy 101 = .ok (.iload_n 2, 1) := by decide +kernel
theorem dX13_readCopy_102 : decode cX13_readCopy 102 = .ok (.iconst 3, 1) := by decide +kernel
theorem dX13_readCopy_103 : decode cX13_readCopy 103 = .ok (.iadd, 1) := by decide +kernel
theorem dX13_readCopy_104 : decode cX13_readCopy 104 = .ok (.aload_n 0, 1) := by decide +kernel
theorem dX13_readCopy_105 : decode cX13_readCopy 105 = .ok (.iconst 1, 1) := by decide +kernel
theorem dX13_readCopy_106 : decode cX13_readCopy 106 = .ok (.bipush 20, 2) := by decide +kernel
theorem dX13_readCopy_108 : decode cX13_readCopy 108 = .ok (.invokevirtual 286, 3) := by decide +kernel
theorem dX13_readCopy_111 : decode cX13_readCopy 111 = .ok (.iastore, 1) := by decide +kernel
theorem dX13_readCopy_112 : decode cX13_readCopy 112 = .ok (.aload_n 0, 1) := by decide +kernel
theorem dX13_readCopy_113 : decode cX13_readCopy 113 = .ok (.getfield 95, 3) := by decide +kernel
theorem dX13_readCopy_116 : decode cX13_readCopy 116 = .ok (.bipush 73, 2) := by decide +kernel
theorem dX13_readCopy_118 : decode cX13_readCopy 118 = .ok (.dup2, 1) := by decide +kernel
theorem dX13_readCopy_119 : decode cX13_readCopy 119 = .ok (.iaload, 1) := by decide +kernel
theorem dX13_readCopy_120 : decode cX13_readCopy 120 = .ok (.iconst 1, 1) := by decide +kernel
theorem dX13_readCopy_121 : decode cX13_readCopy 121 = .ok (.iadd, 1) := by decide +kernel
theorem dX13_readCopy_122 : decode cX13_readCopy 122 = .ok (.iastore, 1) := by decide +kernel
theorem dX13_readCopy_123 : decode cX13_readCopy 123 = .ok (.return_, 1) := by decide +kernel
set_option maxRecDepth 20000 in
theorem ggX13_readExpert_X13_wrong : GoodIn wsX13_readExpert wsX13_wrong := goodIn_r _ [6, 7, 8, 9, 58, 59, 60, 61, 62, 63, 64, 65, 66, 67, 68, 69, 70, 71, 72, 73, 74, 75, 76, 77, 78, 79, 80, 81, 82, 83, 84, 85, 86, 87, 88, 89, 90, 91, 92, 93, 94, 95, 96, 97, 98] (by decide +kernel) (by decide +kernel)
set_option maxRecDepth 20000 in
theorem gX13_readExpert_X13_wrong : GoodIn wsX13_readExpert (wsV RX13 198 RX13 yX13_wrong wsX13_wrong) := goodIn_app (goodIn_of _ (by decide +kernel)) ggX13_readExpert_X13_wrong
set_option maxRecDepth 20000 in
theorem ggX13_readExpert_X13_readName : GoodIn wsX13_readExpert wsX13_readName := goodIn_r _ [13, 9, 7, 14, 15, 16, 17, 18, 19, 20, 5, 21, 22, 23, 24, 25, 26, 27, 28, 29, 30, 31, 2, 3, 4, 6, 8, 32, 33, 34, 35, 36, 37, 38, 58, 59, 60, 61, 62, 63, 64, 65, 66, 67, 68, 69, 70, 71, 72, 73, 74, 75, 76, 77, 78, 79, 80, 81, 82, 83, 84, 85, 86, 87, 88, 89, 90, 91, 92, 93, 94, 95, 96, 97, 98] (by decide +kernel) (by decide +kernel)
set_option maxRecDepth 20000 in
theorem gX13_readExpert_X13_readName : GoodIn wsX13_readExpert (wsV RX13 266 RX13 yX13_readName wsX13_readName) := goodIn_app (goodIn_of _ (by decide +kernel)) ggX13_readExpert_X13_readName
set_option maxRecDepth 20000 in
theorem ggX13_readExpert_X13_takeWord : GoodIn wsX13_readExpert wsX13_takeWord := goodIn_r _ [42, 43, 44, 45, 5, 46, 9, 27, 28, 29, 30, 7, 22, 16, 31, 2, 3, 4, 6, 8, 58, 59, 60, 61, 62, 63, 64, 65, 66, 67, 68, 69, 70, 71, 72, 73, 74, 75, 76, 77, 78, 79, 80, 81, 82, 83, 84, 85, 86, 87, 88, 89, 90, 91, 92, 93, 94, 95, 96, 97, 98] (by decide +kernel) (by decide +kernel)
set_option maxRecDepth 20000 in
theorem gX13_readExpert_X13_takeWord : GoodIn wsX13_readExpert (wsV RX13 207 RX13 yX13_takeWord wsX13_takeWord) := goodIn_app (goodIn_of _ (by decide +kernel)) ggX13_readExpert_X13_takeWord
set_option maxRecDepth 20000 in
theorem ggX13_readExpert_X13_readSpots : GoodIn wsX13_readExpert wsX13_readSpots := goodIn_r _ [50, 7, 9, 18, 19, 20, 5, 21, 22, 23, 24, 25, 26, 27, 28, 29, 30, 16, 31, 51, 52, 53, 54, 2, 3, 4, 6, 8, 32, 33, 34, 35, 15, 36, 14, 37, 17, 38, 55, 56, 57, 58, 59, 60, 61, 62, 63, 64, 65, 66, 67, 68, 69, 70, 71, 72, 73, 74, 75, 76, 77, 78, 79, 80, 81, 82, 83, 84, 85, 86, 87, 88, 89, 90, 91, 92, 93, 94, 95, 96, 97, 98] (by decide +kernel) (by decide +kernel)
set_option maxRecDepth 20000 in
theorem gX13_readExpert_X13_readSpots : GoodIn wsX13_readExpert (wsV RX13 280 RX13 yX13_readSpots wsX13_readSpots) := goodIn_app (goodIn_of _ (by decide +kernel)) ggX13_readExpert_X13_readSpots
theorem dX13_readExpert_0 : decode cX13_readExpert 0 = .ok (.aload_n 0, 1) := by decide +kernel
theorem dX13_readExpert_1 : decode cX13_readExpert 1 = .ok (.getfield 95, 3) := by decide +kernel
theorem dX13_readExpert_4 : decode cX13_readExpert 4 = .ok (.bipush 72, 2) := by decide +kernel
theorem dX13_readExpert_6 : decode cX13_readExpert 6 = .ok (.iaload, 1) := by decide +kernel
theorem dX13_readExpert_7 : decode cX13_readExpert 7 = .ok (.istore_n 1, 1) := by decide +kernel
theorem dX13_readExpert_8 : decode cX13_readExpert 8 = .ok (.iload_n 1, 1) := by decide +kernel
theorem dX13_readExpert_9 : decode cX13_readExpert 9 = .ok (.iconst 4, 1) := by decide +kernel
theorem dX13_readExpert_10 : decode cX13_readExpert 10 = .ok (.if_icmp .ne 9, 3) := by decide +kernel
theorem dX13_readExpert_13 : decode cX13_readExpert 13 = .ok (.aload_n 0, 1) := by decide +kernel
theorem dX13_readExpert_14 : decode cX13_readExpert 14 = .ok (.iconst 5, 1) := by decide +kernel
theorem dX13_readExpert_15 : decode cX13_readExpert 15 = .ok (.invokevirtual 198, 3) := by decide +kernel
theorem dX13_readExpert_18 : decode cX13_readExpert 18 = .ok (.return_, 1) := by decide +kernel
theorem dX13_readExpert_19 : decode cX13_readExpert 19 = .ok (.aload_n 0, 1) := by decide +kernel
theorem dX13_readExpert_20 : decode cX13_readExpert 20 = .ok (.bipush 40, 2) := by decide +kernel
theorem dX13_readExpert_22 : decode cX13_readExpert 22 = .ok (.invokevirtual 266, 3) := by decide +kernel
theorem dX13_readExpert_25 : decode cX13_readExpert 25 = .ok (.aload_n 0, 1) := by decide +kernel
theorem dX13_readExpert_26 : decode cX13_readExpert 26 = .ok (.bipush 10, 2) := by decide +kernel
theorem dX13_readExpert_28 : decode cX13_readExpert 28 = .ok (.invokevirtual 207, 3) := by decide +kernel
theorem dX13_readExpert_31 : decode cX13_readExpert 31 = .ok (.aload_n 0, 1) := by decide +kernel
theorem dX13_readExpert_32 : decode cX13_readExpert 32 = .ok (.getfield 95, 3) := by decide +kernel
theorem dX13_readExpert_35 : decode cX13_readExpert 35 = .ok (.bipush 96, 2) := by decide +kernel
theorem dX13_readExpert_37 : decode cX13_readExpert 37 = .ok (.iload_n 1, 1) := by decide +kernel
theorem dX13_readExpert_38 : decode cX13_readExpert 38 = .ok (.iadd, 1) := by decide +kernel
theorem dX13_readExpert_39 : decode cX13_readExpert 39 = .ok (.aload_n 0, 1) := by decide +kernel
theorem dX13_readExpert_40 : decode cX13_readExpert 40 = .ok (.iconst 4, 1) := by decide +kernel
theorem dX13_readExpert_41 : decode cX13_readExpert 41 = .ok (.invokevirtual 280, 3) := by decide +kernel
theorem dX13_readExpert_44 : decode cX13_readExpert 44 = .ok (.iastore, 1) := by decide +kernel
theorem dX13_readExpert_45 : decode cX13_readExpert 45 = .ok (.aload_n 0, 1) := by decide +kernel
theorem dX13_readExpert_46 : decode cX13_readExpert 46 = .ok (.getfield 95, 3) := by decide +kernel
theorem dX13_readExpert_49 : decode cX13_readExpert 49 = .ok (.bipush 72, 2) := by decide +kernel
theorem dX13_readExpert_51 : decode cX13_readExpert 51 = .ok (.dup2, 1) := by decide +kernel
theorem dX13_readExpert_52 : decode cX13_readExpert 52 = .ok (.iaload, 1) := by decide +kernel
theorem dX13_readExpert_53 : decode cX13_readExpert 53 = .ok (.iconst 1, 1) := by decide +kernel
theorem dX13_readExpert_54 : decode cX13_readExpert 54 = .ok (.iadd, 1) := by decide +kernel
theorem dX13_readExpert_55 : decode cX13_readExpert 55 = .ok (.iastore, 1) := by decide +kernel
theorem dX13_readExpert_56 : decode cX13_readExpert 56 = .ok (.return_, 1) := by decide +kernel
set_option maxRecDepth 20000 in
theorem ggX13_readLaw_X13_wordHere : GoodIn wsX13_readLaw wsX13_wordHere := goodIn_r _ [10, 11, 12, 13, 9, 14, 2, 15, 3, 16, 17, 65, 66, 67, 68, 69, 70, 71, 72, 73, 74, 75, 76, 77, 78, 79, 80, 81, 82, 83, 84, 85, 86, 87, 88, 89, 90, 91, 92, 93, 94, 95, 96, 97, 98, 99, 100, 101, 102, 103, 104, 105] (by decide +kernel) (by decide +kernel)
set_option maxRecDepth 20000 in
theorem gX13_readLaw_X13_wordHere : GoodIn wsX13_readLaw (wsV RX13 214 RX13 yX13_wordHere wsX13_wordHere) := goodIn_app (goodIn_of _ (by decide +kernel)) ggX13_readLaw_X13_wordHere
set_option maxRecDepth 20000 in
theorem ggX13_readLaw_X13_wrong : GoodIn wsX13_readLaw wsX13_wrong := goodIn_r _ [21, 2, 22, 3, 65, 66, 67, 68, 69, 70, 71, 72, 73, 74, 75, 76, 77, 78, 79, 80, 81, 82, 83, 84, 85, 86, 87, 88, 89, 90, 91, 92, 93, 94, 95, 96, 97, 98, 99, 100, 101, 102, 103, 104, 105] (by decide +kernel) (by decide +kernel)
set_option maxRecDepth 20000 in
theorem gX13_readLaw_X13_wrong : GoodIn wsX13_readLaw (wsV RX13 198 RX13 yX13_wrong wsX13_wrong) := goodIn_app (goodIn_of _ (by decide +kernel)) ggX13_readLaw_X13_wrong
set_option maxRecDepth 20000 in
theorem ggX13_readLaw_X13_all : GoodIn wsX13_readLaw wsX13_all := goodIn_r _ [26, 3, 27, 28, 29, 9, 11, 12, 13, 14, 2, 15, 16, 17, 30, 31, 32, 33, 34, 4, 35, 36, 37, 38, 39, 40, 41, 42, 43, 44, 45, 46, 47, 48, 49, 50, 51, 52, 5, 6, 7, 8, 10, 18, 19, 20, 21, 22, 53, 54, 55, 56, 23, 24, 25, 57, 58, 59, 60, 61, 62, 63, 64, 65, 66, 67, 68, 69, 70, 71, 72, 73, 74, 75, 76, 77, 78, 79, 80, 81, 82, 83, 84, 85, 86, 87, 88, 89, 90, 91, 92, 93, 94, 95, 96, 97, 98, 99, 100, 101, 102, 103, 104, 105] (by decide +kernel) (by decide +kernel)
set_option maxRecDepth 20000 in
theorem gX13_readLaw_X13_all : GoodIn wsX13_readLaw (wsV RX13 292 RX13 yX13_all wsX13_all) := goodIn_app (goodIn_of _ (by decide +kernel)) ggX13_readLaw_X13_all
set_option maxRecDepth 20000 in
theorem ggX13_readLaw_X13_emit : GoodIn wsX13_readLaw wsX13_emit := goodIn_r _ [33, 34, 4, 35, 65, 66, 67, 68, 69, 70, 71, 72, 73, 74, 75, 76, 77, 78, 79, 80, 81, 82, 83, 84, 85, 86, 87, 88, 89, 90, 91, 92, 93, 94, 95, 96, 97, 98, 99, 100, 101, 102, 103, 104, 105] (by decide +kernel) (by decide +kernel)
set_option maxRecDepth 20000 in
theorem gX13_readLaw_X13_emit : GoodIn wsX13_readLaw (wsV RX13 295 RX13 yX13_emit wsX13_emit) := goodIn_app (goodIn_of _ (by decide +kernel)) ggX13_readLaw_X13_emit
theorem dX13_readLaw_0 : decode cX13_readLaw 0 = .ok (.aload_n 0, 1) := by decide +kernel
theorem dX13_readLaw_1 : decode cX13_readLaw 1 = .ok (.bipush 11, 2) := by decide +kernel
theorem dX13_readLaw_3 : decode cX13_readLaw 3 = .ok (.iconst 2, 1) := by decide +kernel
theorem dX13_readLaw_4 : decode cX13_readLaw 4 = .ok (.invokevirtual 214, 3) := by decide +kernel
theorem dX13_readLaw_7 : decode cX13_readLaw 7 = .ok (.istore_n 1, 1) := by decide +kernel
theorem dX13_readLaw_8 : decode cX13_readLaw 8 = .ok (.iload_n 1, 1) := by decide +kernel
theorem dX13_readLaw_9 : decode cX13_readLaw 9 = .ok (.ifCond .ge 11, 3) := by decide +kernel
theorem dX13_readLaw_12 : decode cX13_readLaw 12 = .ok (.aload_n 0, 1) := by decide +kernel
theorem dX13_readLaw_13 : decode cX13_readLaw 13 = .ok (.iconst 1, 1) := by decide +kernel
theorem dX13_readLaw_14 : decode cX13_readLaw 14 = .ok (.invokevirtual 198, 3) := by decide +kernel
theorem dX13_readLaw_17 : decode cX13_readLaw 17 = .ok (.goto 20, 3) := by decide +kernel
theorem dX13_readLaw_20 : decode cX13_readLaw 20 = .ok (.aload_n 0, 1) := by decide +kernel
theorem dX13_readLaw_21 : decode cX13_readLaw 21 = .ok (.getfield 95, 3) := by decide +kernel
theorem dX13_readLaw_24 : decode cX13_readLaw 24 = .ok (.bipush 74, 2) := by decide +kernel
theorem dX13_readLaw_26 : decode cX13_readLaw 26 = .ok (.iload_n 1, 1) := by decide +kernel
theorem dX13_readLaw_27 : decode cX13_readLaw 27 = .ok (.iadd, 1) := by decide +kernel
theorem dX13_readLaw_28 : decode cX13_readLaw 28 = .ok (.iaload, 1) := by decide +kernel
theorem dX13_readLaw_29 : decode cX13_readLaw 29 = .ok (.ifCond .lt 8, 3) := by decide +kernel
theorem dX13_readLaw_32 : decode cX13_readLaw 32 = .ok (.aload_n 0, 1) := by decide +kernel
theorem dX13_readLaw_33 : decode cX13_readLaw 33 = .ok (.iconst 3, 1) := by decide +kernel
theorem dX13_readLaw_34 : decode cX13_readLaw 34 = .ok (.invokevirtual 198, 3) := by decide +kernel
theorem dX13_readLaw_37 : decode cX13_readLaw 37 = .ok (.aload_n 0, 1) := by decide +kernel
theorem dX13_readLaw_38 : decode cX13_readLaw 38 = .ok (.getfield 192, 3) := by decide +kernel
theorem dX13_readLaw_41 : decode cX13_readLaw 41 = .ok (.ifCond .le 4, 3) := by decide +kernel
theorem dX13_readLaw_44 : decode cX13_readLaw 44 = .ok (.return_, 1) := by decide +kernel
theorem dX13_readLaw_45 : decode cX13_readLaw 45 = .ok (.aload_n 0, 1) := by decide +kernel
theorem dX13_readLaw_46 : decode cX13_readLaw 46 = .ok (.dup, 1) := by decide +kernel
theorem dX13_readLaw_47 : decode cX13_readLaw 47 = .ok (.getfield 189, 3) := by decide +kernel
theorem dX13_readLaw_50 : decode cX13_readLaw 50 = .ok (.iconst 1, 1) := by decide +kernel
theorem dX13_readLaw_51 : decode cX13_readLaw 51 = .ok (.iadd, 1) := by decide +kernel
theorem dX13_readLaw_52 : decode cX13_readLaw 52 = .ok (.putfield 189, 3) := by decide +kernel
theorem dX13_readLaw_55 : decode cX13_readLaw 55 = .ok (.aload_n 0, 1) := by decide +kernel
theorem dX13_readLaw_56 : decode cX13_readLaw 56 = .ok (.getfield 95, 3) := by decide +kernel
theorem dX13_readLaw_59 : decode cX13_readLaw 59 = .ok (.bipush 74, 2) := by decide +kernel
theorem dX13_readLaw_61 : decode cX13_readLaw 61 = .ok (.iload_n 1, 1) := by decide +kernel
theorem dX13_readLaw_62 : decode cX13_readLaw 62 = .ok (.iadd, 1) := by decide +kernel
theorem dX13_readLaw_63 : decode cX13_readLaw 63 = .ok (.aload_n 0, 1) := by decide +kernel
theorem dX13_readLaw_64 : decode cX13_readLaw 64 = .ok (.getfield 242, 3) := by decide +kernel
theorem dX13_readLaw_67 : decode cX13_readLaw 67 = .ok (.iastore, 1) := by decide +kernel
theorem dX13_readLaw_68 : decode cX13_readLaw 68 = .ok (.aload_n 0, 1) := by decide +kernel
theorem dX13_readLaw_69 : decode cX13_readLaw 69 = .ok (.iload_n 1, 1) := by decide +kernel
theorem dX13_readLaw_70 : decode cX13_readLaw 70 = .ok (.ifCond .ne 8, 3) := by decide +kernel
theorem dX13_readLaw_73 : decode cX13_readLaw 73 = .ok (.bipush 7, 2) := by decide +kernel
theorem dX13_readLaw_75 : decode cX13_readLaw 75 = .ok (.goto 5, 3) := by decide +kernel
theorem dX13_readLaw_78 : decode cX13_readLaw 78 = .ok (.bipush 11, 2) := by decide +kernel
theorem dX13_readLaw_80 : decode cX13_readLaw 80 = .ok (.putfield 289, 3) := by decide +kernel
theorem dX13_readLaw_83 : decode cX13_readLaw 83 = .ok (.aload_n 0, 1) := by decide +kernel
theorem dX13_readLaw_84 : decode cX13_readLaw 84 = .ok (.iconst 0, 1) := by decide +kernel
theorem dX13_readLaw_85 : decode cX13_readLaw 85 = .ok (.invokevirtual 292, 3) := by decide +kernel
theorem dX13_readLaw_88 : decode cX13_readLaw 88 = .ok (.aload_n 0, 1) := by decide +kernel
theorem dX13_readLaw_89 : decode cX13_readLaw 89 = .ok (.iconst 0, 1) := by decide +kernel
theorem dX13_readLaw_90 : decode cX13_readLaw 90 = .ok (.iconst 0, 1) := by decide +kernel
theorem dX13_readLaw_91 : decode cX13_readLaw 91 = .ok (.invokevirtual 295, 3) := by decide +kernel
theorem dX13_readLaw_94 : decode cX13_readLaw 94 = .ok (.return_, 1) := by decide +kernel
set_option maxRecDepth 20000 in
theorem ggX13_nights_X13_cutAll : GoodIn wsX13_nights wsX13_cutAll := goodIn_r _ [10, 11, 12, 13, 14, 15, 3, 16, 17, 18, 4, 2, 19, 20, 9, 21, 22, 23, 24, 25, 26, 27, 28, 29, 30, 85, 86, 87, 88, 89, 90, 91, 92, 93, 94, 95, 96, 97, 98, 99, 100, 101, 102, 103, 104, 105, 106, 107, 108, 109, 110, 111, 112, 113, 114, 115, 116, 117, 118, 119, 120, 121, 122, 123, 124, 125] (by decide +kernel) (by decide +kernel)
set_option maxRecDepth 20000 in
theorem gX13_nights_X13_cutAll : GoodIn wsX13_nights (wsV RX13 239 RX13 yX13_cutAll wsX13_cutAll) := goodIn_app (goodIn_of _ (by decide +kernel)) ggX13_nights_X13_cutAll
set_option maxRecDepth 20000 in
theorem ggX13_nights_X13_wordHere : GoodIn wsX13_nights wsX13_wordHere := goodIn_r _ [34, 35, 36, 37, 9, 38, 2, 3, 4, 18, 39, 85, 86, 87, 88, 89, 90, 91, 92, 93, 94, 95, 96, 97, 98, 99, 100, 101, 102, 103, 104, 105, 106, 107, 108, 109, 110, 111, 112, 113, 114, 115, 116, 117, 118, 119, 120, 121, 122, 123, 124, 125] (by decide +kernel) (by decide +kernel)
set_option maxRecDepth 20000 in
theorem gX13_nights_X13_wordHere : GoodIn wsX13_nights (wsV RX13 214 RX13 yX13_wordHere wsX13_wordHere) := goodIn_app (goodIn_of _ (by decide +kernel)) ggX13_nights_X13_wordHere
set_option maxRecDepth 20000 in
theorem ggX13_nights_X13_wrong : GoodIn wsX13_nights wsX13_wrong := goodIn_r _ [43, 2, 14, 4, 85, 86, 87, 88, 89, 90, 91, 92, 93, 94, 95, 96, 97, 98, 99, 100, 101, 102, 103, 104, 105, 106, 107, 108, 109, 110, 111, 112, 113, 114, 115, 116, 117, 118, 119, 120, 121, 122, 123, 124, 125] (by decide +kernel) (by decide +kernel)
set_option maxRecDepth 20000 in
theorem gX13_nights_X13_wrong : GoodIn wsX13_nights (wsV RX13 198 RX13 yX13_wrong wsX13_wrong) := goodIn_app (goodIn_of _ (by decide +kernel)) ggX13_nights_X13_wrong
set_option maxRecDepth 20000 in
theorem ggX13_nights_X13_readNight : GoodIn wsX13_nights wsX13_readNight := goodIn_r _ [47, 5, 48, 49, 50, 9, 51, 2, 3, 4, 18, 40, 41, 42, 43, 14, 52, 53, 54, 55, 56, 57, 58, 59, 60, 61, 62, 63, 31, 32, 33, 34, 35, 36, 37, 38, 39, 64, 65, 66, 67, 68, 69, 70, 71, 72, 73, 74, 75, 76, 85, 86, 87, 88, 89, 90, 91, 92, 93, 94, 95, 96, 97, 98, 99, 100, 101, 102, 103, 104, 105, 106, 107, 108, 109, 110, 111, 112, 113, 114, 115, 116, 117, 118, 119, 120, 121, 122, 123, 124, 125] (by decide +kernel) (by decide +kernel)
set_option maxRecDepth 20000 in
theorem gX13_nights_X13_readNight : GoodIn wsX13_nights (wsV RX13 299 RX13 yX13_readNight wsX13_readNight) := goodIn_app (goodIn_of _ (by decide +kernel)) ggX13_nights_X13_readNight
set_option maxRecDepth 20000 in
theorem ggX13_nights_X13_takeSign : GoodIn wsX13_nights wsX13_takeSign := goodIn_r _ [80, 4, 81, 82, 83, 9, 84, 2, 3, 18, 40, 41, 42, 43, 14, 85, 86, 87, 88, 89, 90, 91, 92, 93, 94, 95, 96, 97, 98, 99, 100, 101, 102, 103, 104, 105, 106, 107, 108, 109, 110, 111, 112, 113, 114, 115, 116, 117, 118, 119, 120, 121, 122, 123, 124, 125] (by decide +kernel) (by decide +kernel)
set_option maxRecDepth 20000 in
theorem gX13_nights_X13_takeSign : GoodIn wsX13_nights (wsV RX13 248 RX13 yX13_takeSign wsX13_takeSign) := goodIn_app (goodIn_of _ (by decide +kernel)) ggX13_nights_X13_takeSign
theorem dX13_nights_0 : decode cX13_nights 0 = .ok (.aload_n 0, 1) := by decide +kernel
theorem dX13_nights_1 : decode cX13_nights 1 = .ok (.iconst 0, 1) := by decide +kernel
theorem dX13_nights_2 : decode cX13_nights 2 = .ok (.putfield 1, 3) := by decide +kernel
theorem dX13_nights_5 : decode cX13_nights 5 = .ok (.aload_n 0, 1) := by decide +kernel
theorem dX13_nights_6 : decode cX13_nights 6 = .ok (.invokevirtual 239, 3) := by decide +kernel
theorem dX13_nights_9 : decode cX13_nights 9 = .ok (.iconst 0, 1) := by decide +kernel
theorem dX13_nights_10 : decode cX13_nights 10 = .ok (.istore_n 1, 1) := by decide +kernel
theorem dX13_nights_11 : decode cX13_nights 11 = .ok (.aload_n 0, 1) := by decide +kernel
theorem dX13_nights_12 : decode cX13_nights 12 = .ok (.getfield 192, 3) := by decide +kernel
theorem dX13_nights_15 : decode cX13_nights 15 = .ok (.ifCond .ne 94, 3) := by decide +kernel
theorem dX13_nights_18 : decode cX13_nights 18 = .ok (.aload_n 0, 1) := by decide +kernel
theorem dX13_nights_19 : decode cX13_nights 19 = .ok (.getfield 24, 3) := by decide +kernel
theorem dX13_nights_22 : decode cX13_nights 22 = .ok (.aload_n 0, 1) := by decide +kernel
theorem dX13_nights_23 : decode cX13_nights 23 = .ok (.getfield 189, 3) := by decide +kernel
theorem dX13_nights_26 : decode cX13_nights 26 = .ok (.iaload, 1) := by decide +kernel
theorem dX13_nights_27 : decode cX13_nights 27 = .ok (.ifCond .eq 82, 3) := by decide +kernel
theorem dX13_nights_30 : decode cX13_nights 30 = .ok (.aload_n 0, 1) := by decide +kernel
theorem dX13_nights_31 : decode cX13_nights 31 = .ok (.bipush 13, 2) := by decide +kernel
theorem dX13_nights_33 : decode cX13_nights 33 = .ok (.iconst 5, 1) := by decide +kernel
theorem dX13_nights_34 : decode cX13_nights 34 = .ok (.invokevirtual 214, 3) := by decide +kernel
theorem dX13_nights_37 : decode cX13_nights 37 = .ok (.istore_n 2, 1) := by decide +kernel
theorem dX13_nights_38 : decode cX13_nights 38 = .ok (.iload_n 2, 1) := by decide +kernel
theorem dX13_nights_39 : decode cX13_nights 39 = .ok (.ifCond .ge 11, 3) := by decide +kernel
theorem dX13_nights_42 : decode cX13_nights 42 = .ok (.aload_n 0, 1) := by decide +kernel
theorem dX13_nights_43 : decode cX13_nights 43 = .ok (.iconst 1, 1) := by decide +kernel
theorem dX13_nights_44 : decode cX13_nights 44 = .ok (.invokevirtual 198, 3) := by decide +kernel
theorem dX13_nights_47 : decode cX13_nights 47 = .ok (.goto 53, 3) := by decide +kernel
theorem dX13_nights_50 : decode cX13_nights 50 = .ok (.iload_n 1, 1) := by decide +kernel
theorem dX13_nights_51 : decode cX13_nights 51 = .ok (.bipush 30, 2) := by decide +kernel
theorem dX13_nights_53 : decode cX13_nights 53 = .ok (.if_icmp .ne 11, 3) := by decide +kernel
theorem dX13_nights_56 : decode cX13_nights 56 = .ok (.aload_n 0, 1) := by decide +kernel
theorem dX13_nights_57 : decode cX13_nights 57 = .ok (.iconst 5, 1) := by decide +kernel
theorem dX13_nights_58 : decode cX13_nights 58 = .ok (.invokevirtual 198, 3) := by decide +kernel
theorem dX13_nights_61 : decode cX13_nights 61 = .ok (.goto 39, 3) := by decide +kernel
theorem dX13_nights_64 : decode cX13_nights 64 = .ok (.aload_n 0, 1) := by decide +kernel
theorem dX13_nights_65 : decode cX13_nights 65 = .ok (.dup, 1) := by decide +kernel
theorem dX13_nights_66 : decode cX13_nights 66 = .ok (.getfield 189, 3) := by decide +kernel
theorem dX13_nights_69 : decode cX13_nights 69 = .ok (.iconst 1, 1) := by decide +kernel
theorem dX13_nights_70 : decode cX13_nights 70 = .ok (.iadd, 1) := by decide +kernel
theorem dX13_nights_71 : decode cX13_nights 71 = .ok (.putfield 189, 3) := by decide +kernel
theorem dX13_nights_74 : decode cX13_nights 74 = .ok (.aload_n 0, 1) := by decide +kernel
theorem dX13_nights_75 : decode cX13_nights 75 = .ok (.getfield 116, 3) := by decide +kernel
theorem dX13_nights_78 : decode cX13_nights 78 = .ok (.bipush 125, 2) := by decide +kernel
theorem dX13_nights_80 : decode cX13_nights 80 = .ok (.iconst 4, 1) := by decide +kernel
theorem dX13_nights_81 : decode cX13_nights 81 = .ok (.iload_n 1, 1) := by decide +kernel
theorem dX13_nights_82 : decode cX13_nights 82 = .ok (.imul, 1) := by decide +kernel
theorem dX13_nights_83 : decode cX13_nights 83 = .ok (.iadd, 1) := by decide +kernel
theorem dX13_nights_84 : decode cX13_nights 84 = .ok (.iload_n 2, 1) := by decide +kernel
theorem dX13_nights_85 : decode cX13_nights 85 = .ok (.iastore, 1) := by decide +kernel
theorem dX13_nights_86 : decode cX13_nights 86 = .ok (.aload_n 0, 1) := by decide +kernel
theorem dX13_nights_87 : decode cX13_nights 87 = .ok (.iload_n 2, 1) := by decide +kernel
theorem dX13_nights_88 : decode cX13_nights 88 = .ok (.bipush 126, 2) := by decide +kernel
theorem dX13_nights_90 : decode cX13_nights 90 = .ok (.iconst 4, 1) := by decide +kernel
theorem dX13_nights_91 : decode cX13_nights 91 = .ok (.iload_n 1, 1) := by decide +kernel
theorem dX13_nights_92 : decode cX13_nights 92 = .ok (.imul, 1) := by decide +kernel
theorem dX13_nights_93 : decode cX13_nights 93 = .ok (.iadd, 1) := by decide +kernel
theorem dX13_nights_94 : decode cX13_nights 94 = .ok (.invokevirtual 299, 3) := by decide +kernel
theorem dX13_nights_97 : decode cX13_nights 97 = .ok (.iinc 1 1, 3) := by decide +kernel
theorem dX13_nights_100 : decode cX13_nights 100 = .ok (.aload_n 0, 1) := by decide +kernel
theorem dX13_nights_101 : decode cX13_nights 101 = .ok (.bipush 59, 2) := by decide +kernel
theorem dX13_nights_103 : decode cX13_nights 103 = .ok (.invokevirtual 248, 3) := by decide +kernel
theorem dX13_nights_106 : decode cX13_nights 106 = .ok (.goto (-95), 3) := by decide +kernel
theorem dX13_nights_109 : decode cX13_nights 109 = .ok (.aload_n 0, 1) := by decide +kernel
theorem dX13_nights_110 : decode cX13_nights 110 = .ok (.getfield 192, 3) := by decide +kernel
theorem dX13_nights_113 : decode cX13_nights 113 = .ok (.ifCond .le 8, 3) := by decide +kernel
theorem dX13_nights_116 : decode cX13_nights 116 = .ok (.aload_n 0, 1) := by decide +kernel
theorem dX13_nights_117 : decode cX13_nights 117 = .ok (.getfield 192, 3) := by decide +kernel
theorem dX13_nights_120 : decode cX13_nights 120 = .ok (.ireturn, 1) := by decide +kernel
theorem dX13_nights_121 : decode cX13_nights 121 = .ok (.aload_n 0, 1) := by decide +kernel
theorem dX13_nights_122 : decode cX13_nights 122 = .ok (.getfield 116, 3) := by decide +kernel
theorem dX13_nights_125 : decode cX13_nights 125 = .ok (.iconst 0, 1) := by decide +kernel
theorem dX13_nights_126 : decode cX13_nights 126 = .ok (.iload_n 1, 1) := by decide +kernel
theorem dX13_nights_127 : decode cX13_nights 127 = .ok (.iastore, 1) := by decide +kernel
theorem dX13_nights_128 : decode cX13_nights 128 = .ok (.iconst 0, 1) := by decide +kernel
theorem dX13_nights_129 : decode cX13_nights 129 = .ok (.istore_n 2, 1) := by decide +kernel
theorem dX13_nights_130 : decode cX13_nights 130 = .ok (.iload_n 2, 1) := by decide +kernel
theorem dX13_nights_131 : decode cX13_nights 131 = .ok (.iconst 4, 1) := by decide +kernel
theorem dX13_nights_132 : decode cX13_nights 132 = .ok (.iload_n 1, 1) := by decide +kernel
theorem dX13_nights_133 : decode cX13_nights 133 = .ok (.imul, 1) := by decide +kernel
theorem dX13_nights_134 : decode cX13_nights 134 = .ok (.if_icmp .ge 26, 3) := by decide +kernel
theorem dX13_nights_137 : decode cX13_nights 137 = .ok (.aload_n 0, 1) := by decide +kernel
theorem dX13_nights_138 : decode cX13_nights 138 = .ok (.getfield 116, 3) := by decide +kernel
theorem dX13_nights_141 : decode cX13_nights 141 = .ok (.iconst 1, 1) := by decide +kernel
theorem dX13_nights_142 : decode cX13_nights 142 = .ok (.iload_n 2, 1) := by decide +kernel
theorem dX13_nights_143 : decode cX13_nights 143 = .ok (.iadd, 1) := by decide +kernel
theorem dX13_nights_144 : decode cX13_nights 144 = .ok (.aload_n 0, 1) := by decide +kernel
theorem dX13_nights_145 : decode cX13_nights 145 = .ok (.getfield 116, 3) := by decide +kernel
theorem dX13_nights_148 : decode cX13_nights 148 = .ok (.bipush 125, 2) := by decide +kernel
theorem dX13_nights_150 : decode cX13_nights 150 = .ok (.iload_n 2, 1) := by decide +kernel
theorem dX13_nights_151 : decode cX13_nights 151 = .ok (.iadd, 1) := by decide +kernel
theorem dX13_nights_152 : decode cX13_nights 152 = .ok (.iaload, 1) := by decide +kernel
theorem dX13_nights_153 : decode cX13_nights 153 = .ok (.iastore, 1) := by decide +kernel
theorem dX13_nights_154 : decode cX13_nights 154 = .ok (.iinc 2 1, 3) := by decide +kernel
theorem dX13_nights_157 : decode cX13_nights 157 = .ok (.goto (-27), 3) := by decide +kernel
theorem dX13_nights_160 : decode cX13_nights 160 = .ok (.iconst 0, 1) := by decide +kernel
theorem dX13_nights_161 : decode cX13_nights 161 = .ok (.ireturn, 1) := by decide +kernel
set_option maxRecDepth 20000 in
theorem ggX13_readNight_X13_takeNumber : GoodIn wsX13_readNight wsX13_takeNumber := goodIn_r _ [6, 7, 8, 9, 10, 11, 12, 13, 5, 14, 15, 50, 51, 52, 53, 54, 55, 56, 57, 58, 59, 60, 61, 62, 63, 64, 65, 66, 67, 68, 69, 70, 71, 72, 73, 74, 75, 76, 77, 78, 79, 80, 81, 82, 83, 84, 85, 86, 87, 88, 89, 90] (by decide +kernel) (by decide +kernel)
set_option maxRecDepth 20000 in
theorem gX13_readNight_X13_takeNumber : GoodIn wsX13_readNight (wsV RX13 210 RX13 yX13_takeNumber wsX13_takeNumber) := goodIn_app (goodIn_of _ (by decide +kernel)) ggX13_readNight_X13_takeNumber
set_option maxRecDepth 20000 in
theorem ggX13_readNight_X13_takeTold : GoodIn wsX13_readNight wsX13_takeTold := goodIn_r _ [19, 9, 7, 20, 21, 22, 5, 23, 24, 25, 26, 27, 8, 28, 29, 30, 31, 32, 33, 34, 35, 10, 36, 11, 12, 13, 14, 15, 37, 38, 39, 40, 41, 42, 43, 44, 45, 46, 47, 48, 49, 50, 51, 52, 53, 54, 55, 56, 57, 58, 59, 60, 61, 62, 63, 64, 65, 66, 67, 68, 69, 70, 71, 72, 73, 74, 75, 76, 77, 78, 79, 80, 81, 82, 83, 84, 85, 86, 87, 88, 89, 90] (by decide +kernel) (by decide +kernel)
set_option maxRecDepth 20000 in
theorem gX13_readNight_X13_takeTold : GoodIn wsX13_readNight (wsV RX13 286 RX13 yX13_takeTold wsX13_takeTold) := goodIn_app (goodIn_of _ (by decide +kernel)) ggX13_readNight_X13_takeTold
theorem dX13_readNight_0 : decode cX13_readNight 0 = .ok (.iload_n 1, 1) := by decide +kernel
theorem dX13_readNight_1 : decode cX13_readNight 1 = .ok (.iconst 3, 1) := by decide +kernel
theorem dX13_readNight_2 : decode cX13_readNight 2 = .ok (.if_icmp .ne 19, 3) := by decide +kernel
theorem dX13_readNight_5 : decode cX13_readNight 5 = .ok (.aload_n 0, 1) := by decide +kernel
theorem dX13_readNight_6 : decode cX13_readNight 6 = .ok (.getfield 116, 3) := by decide +kernel
theorem dX13_readNight_9 : decode cX13_readNight 9 = .ok (.iload_n 2, 1) := by decide +kernel
theorem dX13_readNight_10 : decode cX13_readNight 10 = .ok (.aload_n 0, 1) := by decide +kernel
theorem dX13_readNight_11 : decode cX13_readNight 11 = .ok (.iconst 0, 1) := by decide +kernel
theorem dX13_readNight_12 : decode cX13_readNight 12 = .ok (.bipush 23, 2) := by decide +kernel
theorem dX13_readNight_14 : decode cX13_readNight 14 = .ok (.invokevirtual 210, 3) := by decide +kernel
theorem dX13_readNight_17 : decode cX13_readNight 17 = .ok (.iastore, 1) := by decide +kernel
theorem dX13_readNight_18 : decode cX13_readNight 18 = .ok (.goto 59, 3) := by decide +kernel
theorem dX13_readNight_21 : decode cX13_readNight 21 = .ok (.iload_n 1, 1) := by decide +kernel
theorem dX13_readNight_22 : decode cX13_readNight 22 = .ok (.iconst 3, 1) := by decide +kernel
theorem dX13_readNight_23 : decode cX13_readNight 23 = .ok (.if_icmp .ge 54, 3) := by decide +kernel
theorem dX13_readNight_26 : decode cX13_readNight 26 = .ok (.aload_n 0, 1) := by decide +kernel
theorem dX13_readNight_27 : decode cX13_readNight 27 = .ok (.getfield 116, 3) := by decide +kernel
theorem dX13_readNight_30 : decode cX13_readNight 30 = .ok (.iload_n 2, 1) := by decide +kernel
theorem dX13_readNight_31 : decode cX13_readNight 31 = .ok (.aload_n 0, 1) := by decide +kernel
theorem dX13_readNight_32 : decode cX13_readNight 32 = .ok (.iconst 0, 1) := by decide +kernel
theorem dX13_readNight_33 : decode cX13_readNight 33 = .ok (.bipush 20, 2) := by decide +kernel
theorem dX13_readNight_35 : decode cX13_readNight 35 = .ok (.invokevirtual 286, 3) := by decide +kernel
theorem dX13_readNight_38 : decode cX13_readNight 38 = .ok (.iastore, 1) := by decide +kernel
theorem dX13_readNight_39 : decode cX13_readNight 39 = .ok (.aload_n 0, 1) := by decide +kernel
theorem dX13_readNight_40 : decode cX13_readNight 40 = .ok (.getfield 116, 3) := by decide +kernel
theorem dX13_readNight_43 : decode cX13_readNight 43 = .ok (.iload_n 2, 1) := by decide +kernel
theorem dX13_readNight_44 : decode cX13_readNight 44 = .ok (.iconst 1, 1) := by decide +kernel
theorem dX13_readNight_45 : decode cX13_readNight 45 = .ok (.iadd, 1) := by decide +kernel
theorem dX13_readNight_46 : decode cX13_readNight 46 = .ok (.aload_n 0, 1) := by decide +kernel
theorem dX13_readNight_47 : decode cX13_readNight 47 = .ok (.iconst 0, 1) := by decide +kernel
theorem dX13_readNight_48 : decode cX13_readNight 48 = .ok (.bipush 7, 2) := by decide +kernel
theorem dX13_readNight_50 : decode cX13_readNight 50 = .ok (.invokevirtual 210, 3) := by decide +kernel
theorem dX13_readNight_53 : decode cX13_readNight 53 = .ok (.iastore, 1) := by decide +kernel
theorem dX13_readNight_54 : decode cX13_readNight 54 = .ok (.aload_n 0, 1) := by decide +kernel
theorem dX13_readNight_55 : decode cX13_readNight 55 = .ok (.getfield 116, 3) := by decide +kernel
theorem dX13_readNight_58 : decode cX13_readNight 58 = .ok (.iload_n 2, 1) := by decide +kernel
theorem dX13_readNight_59 : decode cX13_readNight 59 = .ok (.iconst 2, 1) := by decide +kernel
theorem dX13_readNight_60 : decode cX13_readNight 60 = .ok (.iadd, 1) := by decide +kernel
theorem dX13_readNight_61 : decode cX13_readNight 61 = .ok (.iload_n 1, 1) := by decide +kernel
theorem dX13_readNight_62 : decode cX13_readNight 62 = .ok (.iconst 1, 1) := by decide +kernel
theorem dX13_readNight_63 : decode cX13_readNight 63 = .ok (.if_icmp .ne 12, 3) := by decide +kernel
theorem dX13_readNight_66 : decode cX13_readNight 66 = .ok (.aload_n 0, 1) := by decide +kernel
theorem dX13_readNight_67 : decode cX13_readNight 67 = .ok (.iconst 0, 1) := by decide +kernel
theorem dX13_readNight_68 : decode cX13_readNight 68 = .ok (.iconst 0, 1) := by decide +kernel
theorem dX13_readNight_69 : decode cX13_readNight 69 = .ok (.invokevirtual 286, 3) := by decide +kernel
theorem dX13_readNight_72 : decode cX13_readNight 72 = .ok (.goto 4, 3) := by decide +kernel
theorem dX13_readNight_75 : decode cX13_readNight 75 = .ok (.iconst 0, 1) := by decide +kernel
theorem dX13_readNight_76 : decode cX13_readNight 76 = .ok (.iastore, 1) := by decide +kernel
theorem dX13_readNight_77 : decode cX13_readNight 77 = .ok (.return_, 1) := by decide +kernel
theorem dX13_emit_0 : decode cX13_emit 0 = .ok (.aload_n 0, 1) := by decide +kernel
theorem dX13_emit_1 : decode cX13_emit 1 = .ok (.getfield 98, 3) := by decide +kernel
theorem dX13_emit_4 : decode cX13_emit 4 = .ok (.sipush 1100, 3) := by decide +kernel
theorem dX13_emit_7 : decode cX13_emit 7 = .ok (.aload_n 0, 1) := by decide +kernel
theorem dX13_emit_8 : decode cX13_emit 8 = .ok (.getfield 242, 3) := by decide +kernel
theorem dX13_emit_11 : decode cX13_emit 11 = .ok (.iadd, 1) := by decide +kernel
theorem dX13_emit_12 : decode cX13_emit 12 = .ok (.iload_n 1, 1) := by decide +kernel
theorem dX13_emit_13 : decode cX13_emit 13 = .ok (.iastore, 1) := by decide +kernel
theorem dX13_emit_14 : decode cX13_emit 14 = .ok (.aload_n 0, 1) := by decide +kernel
theorem dX13_emit_15 : decode cX13_emit 15 = .ok (.getfield 101, 3) := by decide +kernel
theorem dX13_emit_18 : decode cX13_emit 18 = .ok (.sipush 1100, 3) := by decide +kernel
theorem dX13_emit_21 : decode cX13_emit 21 = .ok (.aload_n 0, 1) := by decide +kernel
theorem dX13_emit_22 : decode cX13_emit 22 = .ok (.getfield 242, 3) := by decide +kernel
theorem dX13_emit_25 : decode cX13_emit 25 = .ok (.iadd, 1) := by decide +kernel
theorem dX13_emit_26 : decode cX13_emit 26 = .ok (.iload_n 2, 1) := by decide +kernel
theorem dX13_emit_27 : decode cX13_emit 27 = .ok (.iastore, 1) := by decide +kernel
theorem dX13_emit_28 : decode cX13_emit 28 = .ok (.aload_n 0, 1) := by decide +kernel
theorem dX13_emit_29 : decode cX13_emit 29 = .ok (.dup, 1) := by decide +kernel
theorem dX13_emit_30 : decode cX13_emit 30 = .ok (.getfield 242, 3) := by decide +kernel
theorem dX13_emit_33 : decode cX13_emit 33 = .ok (.iconst 1, 1) := by decide +kernel
theorem dX13_emit_34 : decode cX13_emit 34 = .ok (.iadd, 1) := by decide +kernel
theorem dX13_emit_35 : decode cX13_emit 35 = .ok (.putfield 242, 3) := by decide +kernel
theorem dX13_emit_38 : decode cX13_emit 38 = .ok (.return_, 1) := by decide +kernel
set_option maxRecDepth 20000 in
theorem ggX13_all_X13_test : GoodIn wsX13_all wsX13_test := goodIn_r _ [59, 60, 61, 62, 5, 29, 30, 31, 32, 10, 11, 1, 12, 25, 26, 27, 28, 14, 15, 16, 17, 18, 19, 20, 0, 2, 3, 4, 6, 7, 8, 9, 13, 21, 22, 23, 24, 33, 34, 35, 36, 37, 38, 39, 40, 41, 42, 43, 44, 45, 46, 47, 48, 49, 50, 51, 52, 53, 54, 55, 56, 57, 58, 63, 64, 65, 66, 67, 68, 69, 70, 71, 72, 73, 74, 75, 76, 77, 78, 79, 80, 81, 82, 83, 84, 85, 86, 87, 88, 89, 90, 91, 92, 93, 94, 95, 96, 97, 98, 99, 100, 101, 102, 103] (by decide +kernel) (by decide +kernel)
set_option maxRecDepth 20000 in
theorem gX13_all_X13_test : GoodIn wsX13_all (wsV RX13 302 RX13 yX13_test wsX13_test) := goodIn_app (goodIn_of _ (by decide +kernel)) ggX13_all_X13_test
set_option maxRecDepth 20000 in
theorem ggX13_all_X13_isWord : GoodIn wsX13_all wsX13_isWord := goodIn_r _ [9, 10, 11, 1, 12, 13, 63, 64, 65, 66, 67, 68, 69, 70, 71, 72, 73, 74, 75, 76, 77, 78, 79, 80, 81, 82, 83, 84, 85, 86, 87, 88, 89, 90, 91, 92, 93, 94, 95, 96, 97, 98, 99, 100, 101, 102, 103] (by decide +kernel) (by decide +kernel)
set_option maxRecDepth 20000 in
theorem gX13_all_X13_isWord : GoodIn wsX13_all (wsV RX13 201 RX13 yX13_isWord wsX13_isWord) := goodIn_app (goodIn_of _ (by decide +kernel)) ggX13_all_X13_isWord
set_option maxRecDepth 20000 in
theorem ggX13_all_X13_emit : GoodIn wsX13_all wsX13_emit := goodIn_r _ [17, 18, 19, 20, 63, 64, 65, 66, 67, 68, 69, 70, 71, 72, 73, 74, 75, 76, 77, 78, 79, 80, 81, 82, 83, 84, 85, 86, 87, 88, 89, 90, 91, 92, 93, 94, 95, 96, 97, 98, 99, 100, 101, 102, 103] (by decide +kernel) (by decide +kernel)
set_option maxRecDepth 20000 in
theorem gX13_all_X13_emit : GoodIn wsX13_all (wsV RX13 295 RX13 yX13_emit wsX13_emit) := goodIn_app (goodIn_of _ (by decide +kernel)) ggX13_all_X13_emit
theorem dX13_all_0 : decode cX13_all 0 = .ok (.aload_n 0, 1) := by decide +kernel
theorem dX13_all_1 : decode cX13_all 1 = .ok (.iload_n 1, 1) := by decide +kernel
theorem dX13_all_2 : decode cX13_all 2 = .ok (.invokevirtual 302, 3) := by decide +kernel
theorem dX13_all_5 : decode cX13_all 5 = .ok (.aload_n 0, 1) := by decide +kernel
theorem dX13_all_6 : decode cX13_all 6 = .ok (.bipush 23, 2) := by decide +kernel
theorem dX13_all_8 : decode cX13_all 8 = .ok (.invokevirtual 201, 3) := by decide +kernel
theorem dX13_all_11 : decode cX13_all 11 = .ok (.ifCond .ne 12, 3) := by decide +kernel
theorem dX13_all_14 : decode cX13_all 14 = .ok (.aload_n 0, 1) := by decide +kernel
theorem dX13_all_15 : decode cX13_all 15 = .ok (.bipush 24, 2) := by decide +kernel
theorem dX13_all_17 : decode cX13_all 17 = .ok (.invokevirtual 201, 3) := by decide +kernel
theorem dX13_all_20 : decode cX13_all 20 = .ok (.ifCond .eq 44, 3) := by decide +kernel
theorem dX13_all_23 : decode cX13_all 23 = .ok (.aload_n 0, 1) := by decide +kernel
theorem dX13_all_24 : decode cX13_all 24 = .ok (.bipush 23, 2) := by decide +kernel
theorem dX13_all_26 : decode cX13_all 26 = .ok (.invokevirtual 201, 3) := by decide +kernel
theorem dX13_all_29 : decode cX13_all 29 = .ok (.istore_n 2, 1) := by decide +kernel
theorem dX13_all_30 : decode cX13_all 30 = .ok (.aload_n 0, 1) := by decide +kernel
theorem dX13_all_31 : decode cX13_all 31 = .ok (.dup, 1) := by decide +kernel
theorem dX13_all_32 : decode cX13_all 32 = .ok (.getfield 189, 3) := by decide +kernel
theorem dX13_all_35 : decode cX13_all 35 = .ok (.iconst 1, 1) := by decide +kernel
theorem dX13_all_36 : decode cX13_all 36 = .ok (.iadd, 1) := by decide +kernel
theorem dX13_all_37 : decode cX13_all 37 = .ok (.putfield 189, 3) := by decide +kernel
theorem dX13_all_40 : decode cX13_all 40 = .ok (.aload_n 0, 1) := by decide +kernel
theorem dX13_all_41 : decode cX13_all 41 = .ok (.iload_n 1, 1) := by decide +kernel
theorem dX13_all_42 : decode cX13_all 42 = .ok (.invokevirtual 302, 3) := by decide +kernel
theorem dX13_all_45 : decode cX13_all 45 = .ok (.aload_n 0, 1) := by decide +kernel
theorem dX13_all_46 : decode cX13_all 46 = .ok (.iload_n 2, 1) := by decide +kernel
theorem dX13_all_47 : decode cX13_all 47 = .ok (.ifCond .eq 8, 3) := by decide +kernel
theorem dX13_all_50 : decode cX13_all 50 = .ok (.bipush 9, 2) := by decide +kernel
theorem dX13_all_52 : decode cX13_all 52 = .ok (.goto 5, 3) := by decide +kernel
theorem dX13_all_55 : decode cX13_all 55 = .ok (.bipush 10, 2) := by decide +kernel
theorem dX13_all_57 : decode cX13_all 57 = .ok (.iconst 0, 1) := by decide +kernel
theorem dX13_all_58 : decode cX13_all 58 = .ok (.invokevirtual 295, 3) := by decide +kernel
theorem dX13_all_61 : decode cX13_all 61 = .ok (.goto (-56), 3) := by decide +kernel
theorem dX13_all_64 : decode cX13_all 64 = .ok (.return_, 1) := by decide +kernel
set_option maxRecDepth 20000 in
theorem ggX13_test_X13_sums : GoodIn wsX13_test wsX13_sums := goodIn_r _ [37, 11, 38, 39, 40, 4, 5, 6, 7, 8, 9, 10, 12, 17, 18, 19, 20, 21, 22, 23, 24, 25, 26, 27, 28, 29, 30, 31, 32, 33, 34, 35, 36, 13, 14, 15, 16, 41, 42, 43, 44, 45, 46, 47, 48, 49, 50, 51, 52, 53, 54, 55, 56, 57, 58, 59, 60, 61, 62, 0, 1, 2, 3, 63, 64, 65, 66, 67, 68, 69, 70, 71, 72, 73, 74, 75, 76, 77, 78, 79, 80, 81, 82, 83, 84, 85, 86, 87, 88, 89, 90, 91, 92, 93, 94, 95, 96, 97, 98, 99, 100, 101, 102, 103] (by decide +kernel) (by decide +kernel)
set_option maxRecDepth 20000 in
theorem gX13_test_X13_sums : GoodIn wsX13_test (wsV RX13 305 RX13 yX13_sums wsX13_sums) := goodIn_app (goodIn_of _ (by decide +kernel)) ggX13_test_X13_sums
set_option maxRecDepth 20000 in
theorem ggX13_test_X13_isSign : GoodIn wsX13_test wsX13_isSign := goodIn_r _ [8, 9, 10, 11, 12, 63, 64, 65, 66, 67, 68, 69, 70, 71, 72, 73, 74, 75, 76, 77, 78, 79, 80, 81, 82, 83, 84, 85, 86, 87, 88, 89, 90, 91, 92, 93, 94, 95, 96, 97, 98, 99, 100, 101, 102, 103] (by decide +kernel) (by decide +kernel)
set_option maxRecDepth 20000 in
theorem gX13_test_X13_isSign : GoodIn wsX13_test (wsV RX13 195 RX13 yX13_isSign wsX13_isSign) := goodIn_app (goodIn_of _ (by decide +kernel)) ggX13_test_X13_isSign
set_option maxRecDepth 20000 in
theorem ggX13_test_X13_hasSign : GoodIn wsX13_test wsX13_hasSign := goodIn_r _ [16, 11, 5, 6, 7, 4, 8, 9, 10, 12, 63, 64, 65, 66, 67, 68, 69, 70, 71, 72, 73, 74, 75, 76, 77, 78, 79, 80, 81, 82, 83, 84, 85, 86, 87, 88, 89, 90, 91, 92, 93, 94, 95, 96, 97, 98, 99, 100, 101, 102, 103] (by decide +kernel) (by decide +kernel)
set_option maxRecDepth 20000 in
theorem gX13_test_X13_hasSign : GoodIn wsX13_test (wsV RX13 308 RX13 yX13_hasSign wsX13_hasSign) := goodIn_app (goodIn_of _ (by decide +kernel)) ggX13_test_X13_hasSign
set_option maxRecDepth 20000 in
theorem ggX13_test_X13_emit : GoodIn wsX13_test wsX13_emit := goodIn_r _ [20, 21, 22, 23, 63, 64, 65, 66, 67, 68, 69, 70, 71, 72, 73, 74, 75, 76, 77, 78, 79, 80, 81, 82, 83, 84, 85, 86, 87, 88, 89, 90, 91, 92, 93, 94, 95, 96, 97, 98, 99, 100, 101, 102, 103] (by decide +kernel) (by decide +kernel)
set_option maxRecDepth 20000 in
theorem gX13_test_X13_emit : GoodIn wsX13_test (wsV RX13 295 RX13 yX13_emit wsX13_emit) := goodIn_app (goodIn_of _ (by decide +kernel)) ggX13_test_X13_emit
theorem dX13_test_0 : decode cX13_test 0 = .ok (.aload_n 0, 1) := by decide +kernel
theorem dX13_test_1 : decode cX13_test 1 = .ok (.iload_n 1, 1) := by decide +kernel
theorem dX13_test_2 : decode cX13_test 2 = .ok (.invokevirtual 305, 3) := by decide +kernel
theorem dX13_test_5 : decode cX13_test 5 = .ok (.aload_n 0, 1) := by decide +kernel
theorem dX13_test_6 : decode cX13_test 6 = .ok (.bipush 60, 2) := by decide +kernel
theorem dX13_test_8 : decode cX13_test 8 = .ok (.invokevirtual 195, 3) := by decide +kernel
theorem dX13_test_11 : decode cX13_test 11 = .ok (.istore_n 2, 1) := by decide +kernel
theorem dX13_test_12 : decode cX13_test 12 = .ok (.aload_n 0, 1) := by decide +kernel
theorem dX13_test_13 : decode cX13_test 13 = .ok (.bipush 60, 2) := by decide +kernel
theorem dX13_test_15 : decode cX13_test 15 = .ok (.invokevirtual 308, 3) := by decide +kernel
theorem dX13_test_18 : decode cX13_test 18 = .ok (.ifCond .ne 12, 3) := by decide +kernel
theorem dX13_test_21 : decode cX13_test 21 = .ok (.aload_n 0, 1) := by decide +kernel
theorem dX13_test_22 : decode cX13_test 22 = .ok (.bipush 61, 2) := by decide +kernel
theorem dX13_test_24 : decode cX13_test 24 = .ok (.invokevirtual 308, 3) := by decide +kernel
theorem dX13_test_27 : decode cX13_test 27 = .ok (.ifCond .eq 24, 3) := by decide +kernel
theorem dX13_test_30 : decode cX13_test 30 = .ok (.aload_n 0, 1) := by decide +kernel
theorem dX13_test_31 : decode cX13_test 31 = .ok (.iload_n 1, 1) := by decide +kernel
theorem dX13_test_32 : decode cX13_test 32 = .ok (.invokevirtual 305, 3) := by decide +kernel
theorem dX13_test_35 : decode cX13_test 35 = .ok (.aload_n 0, 1) := by decide +kernel
theorem dX13_test_36 : decode cX13_test 36 = .ok (.iload_n 2, 1) := by decide +kernel
theorem dX13_test_37 : decode cX13_test 37 = .ok (.ifCond .eq 8, 3) := by decide +kernel
theorem dX13_test_40 : decode cX13_test 40 = .ok (.bipush 7, 2) := by decide +kernel
theorem dX13_test_42 : decode cX13_test 42 = .ok (.goto 5, 3) := by decide +kernel
theorem dX13_test_45 : decode cX13_test 45 = .ok (.bipush 8, 2) := by decide +kernel
theorem dX13_test_47 : decode cX13_test 47 = .ok (.iconst 0, 1) := by decide +kernel
theorem dX13_test_48 : decode cX13_test 48 = .ok (.invokevirtual 295, 3) := by decide +kernel
theorem dX13_test_51 : decode cX13_test 51 = .ok (.return_, 1) := by decide +kernel
set_option maxRecDepth 20000 in
theorem ggX13_sums_X13_products : GoodIn wsX13_sums wsX13_products := goodIn_r _ [29, 30, 31, 32, 5, 33, 34, 35, 36, 1, 6, 7, 8, 9, 10, 11, 12, 13, 14, 15, 16, 17, 18, 19, 20, 21, 22, 23, 24, 25, 26, 27, 28, 0, 2, 3, 4, 37, 38, 39, 40, 41, 42, 43, 44, 45, 46, 47, 48, 49, 50, 51, 52, 53, 54, 55, 56, 57, 58, 59, 60, 61, 62, 63, 64, 65, 66, 67, 68, 69, 70, 71, 72, 73, 74, 75, 76, 77, 78, 79, 80, 81, 82, 83, 84, 85, 86, 87, 88, 89, 90, 91, 92, 93, 94, 95, 96, 97, 98, 99, 100, 101, 102, 103] (by decide +kernel) (by decide +kernel)
set_option maxRecDepth 20000 in
theorem gX13_sums_X13_products : GoodIn wsX13_sums (wsV RX13 311 RX13 yX13_products wsX13_products) := goodIn_app (goodIn_of _ (by decide +kernel)) ggX13_sums_X13_products
set_option maxRecDepth 20000 in
theorem ggX13_sums_X13_isSign : GoodIn wsX13_sums wsX13_isSign := goodIn_r _ [9, 10, 11, 1, 12, 63, 64, 65, 66, 67, 68, 69, 70, 71, 72, 73, 74, 75, 76, 77, 78, 79, 80, 81, 82, 83, 84, 85, 86, 87, 88, 89, 90, 91, 92, 93, 94, 95, 96, 97, 98, 99, 100, 101, 102, 103] (by decide +kernel) (by decide +kernel)
set_option maxRecDepth 20000 in
theorem gX13_sums_X13_isSign : GoodIn wsX13_sums (wsV RX13 195 RX13 yX13_isSign wsX13_isSign) := goodIn_app (goodIn_of _ (by decide +kernel)) ggX13_sums_X13_isSign
set_option maxRecDepth 20000 in
theorem ggX13_sums_X13_emit : GoodIn wsX13_sums wsX13_emit := goodIn_r _ [16, 17, 18, 19, 63, 64, 65, 66, 67, 68, 69, 70, 71, 72, 73, 74, 75, 76, 77, 78, 79, 80, 81, 82, 83, 84, 85, 86, 87, 88, 89, 90, 91, 92, 93, 94, 95, 96, 97, 98, 99, 100, 101, 102, 103] (by decide +kernel) (by decide +kernel)
set_option maxRecDepth 20000 in
theorem gX13_sums_X13_emit : GoodIn wsX13_sums (wsV RX13 295 RX13 yX13_emit wsX13_emit) := goodIn_app (goodIn_of _ (by decide +kernel)) ggX13_sums_X13_emit
theorem dX13_sums_0 : decode cX13_sums 0 = .ok (.aload_n 0, 1) := by decide +kernel
theorem dX13_sums_1 : decode cX13_sums 1 = .ok (.iload_n 1, 1) := by decide +kernel
theorem dX13_sums_2 : decode cX13_sums 2 = .ok (.invokevirtual 311, 3) := by decide +kernel
theorem dX13_sums_5 : decode cX13_sums 5 = .ok (.aload_n 0, 1) := by decide +kernel
theorem dX13_sums_6 : decode cX13_sums 6 = .ok (.bipush 43, 2) := by decide +kernel
theorem dX13_sums_8 : decode cX13_sums 8 = .ok (.invokevirtual 195, 3) := by decide +kernel
theorem dX13_sums_11 : decode cX13_sums 11 = .ok (.ifCond .ne 12, 3) := by decide +kernel
theorem dX13_sums_14 : decode cX13_sums 14 = .ok (.aload_n 0, 1) := by decide +kernel
theorem dX13_sums_15 : decode cX13_sums 15 = .ok (.bipush 45, 2) := by decide +kernel
theorem dX13_sums_17 : decode cX13_sums 17 = .ok (.invokevirtual 195, 3) := by decide +kernel
theorem dX13_sums_20 : decode cX13_sums 20 = .ok (.ifCond .eq 42, 3) := by decide +kernel
theorem dX13_sums_23 : decode cX13_sums 23 = .ok (.aload_n 0, 1) := by decide +kernel
theorem dX13_sums_24 : decode cX13_sums 24 = .ok (.bipush 43, 2) := by decide +kernel
theorem dX13_sums_26 : decode cX13_sums 26 = .ok (.invokevirtual 195, 3) := by decide +kernel
theorem dX13_sums_29 : decode cX13_sums 29 = .ok (.istore_n 2, 1) := by decide +kernel
theorem dX13_sums_30 : decode cX13_sums 30 = .ok (.aload_n 0, 1) := by decide +kernel
theorem dX13_sums_31 : decode cX13_sums 31 = .ok (.dup, 1) := by decide +kernel
theorem dX13_sums_32 : decode cX13_sums 32 = .ok (.getfield 189, 3) := by decide +kernel
theorem dX13_sums_35 : decode cX13_sums 35 = .ok (.iconst 1, 1) := by decide +kernel
theorem dX13_sums_36 : decode cX13_sums 36 = .ok (.iadd, 1) := by decide +kernel
theorem dX13_sums_37 : decode cX13_sums 37 = .ok (.putfield 189, 3) := by decide +kernel
theorem dX13_sums_40 : decode cX13_sums 40 = .ok (.aload_n 0, 1) := by decide +kernel
theorem dX13_sums_41 : decode cX13_sums 41 = .ok (.iload_n 1, 1) := by decide +kernel
theorem dX13_sums_42 : decode cX13_sums 42 = .ok (.invokevirtual 311, 3) := by decide +kernel
theorem dX13_sums_45 : decode cX13_sums 45 = .ok (.aload_n 0, 1) := by decide +kernel
theorem dX13_sums_46 : decode cX13_sums 46 = .ok (.iload_n 2, 1) := by decide +kernel
theorem dX13_sums_47 : decode cX13_sums 47 = .ok (.ifCond .eq 7, 3) := by decide +kernel
theorem dX13_sums_50 : decode cX13_sums 50 = .ok (.iconst 4, 1) := by decide +kernel
theorem dX13_sums_51 : decode cX13_sums 51 = .ok (.goto 4, 3) := by decide +kernel
theorem dX13_sums_54 : decode cX13_sums 54 = .ok (.iconst 5, 1) := by decide +kernel
theorem dX13_sums_55 : decode cX13_sums 55 = .ok (.iconst 0, 1) := by decide +kernel
theorem dX13_sums_56 : decode cX13_sums 56 = .ok (.invokevirtual 295, 3) := by decide +kernel
theorem dX13_sums_59 : decode cX13_sums 59 = .ok (.goto (-54), 3) := by decide +kernel
theorem dX13_sums_62 : decode cX13_sums 62 = .ok (.return_, 1) := by decide +kernel
set_option maxRecDepth 20000 in
theorem ggX13_products_X13_takePart : GoodIn wsX13_products wsX13_takePart := goodIn_r _ [37, 14, 15, 9, 38, 16, 39, 40, 41, 4, 42, 28, 29, 30, 31, 32, 10, 11, 12, 13, 43, 44, 45, 46, 47, 48, 49, 50, 51, 1, 2, 3, 17, 18, 19, 20, 21, 22, 23, 5, 6, 7, 8, 52, 53, 54, 55, 56, 57, 58, 24, 25, 26, 27, 0, 33, 34, 35, 36, 59, 60, 61, 62, 63, 64, 65, 66, 67, 68, 69, 70, 71, 72, 73, 74, 75, 76, 77, 78, 79, 80, 81, 82, 83, 84, 85, 86, 87, 88, 89, 90, 91, 92, 93, 94, 95, 96, 97, 98, 99, 100, 101, 102, 103] (by decide +kernel) (by decide +kernel)
set_option maxRecDepth 20000 in
theorem gX13_products_X13_takePart : GoodIn wsX13_products (wsV RX13 314 RX13 yX13_takePart wsX13_takePart) := goodIn_app (goodIn_of _ (by decide +kernel)) ggX13_products_X13_takePart
set_option maxRecDepth 20000 in
theorem ggX13_products_X13_hasSign : GoodIn wsX13_products wsX13_hasSign := goodIn_r _ [8, 9, 10, 11, 12, 4, 13, 14, 15, 16, 63, 64, 65, 66, 67, 68, 69, 70, 71, 72, 73, 74, 75, 76, 77, 78, 79, 80, 81, 82, 83, 84, 85, 86, 87, 88, 89, 90, 91, 92, 93, 94, 95, 96, 97, 98, 99, 100, 101, 102, 103] (by decide +kernel) (by decide +kernel)
set_option maxRecDepth 20000 in
theorem gX13_products_X13_hasSign : GoodIn wsX13_products (wsV RX13 308 RX13 yX13_hasSign wsX13_hasSign) := goodIn_app (goodIn_of _ (by decide +kernel)) ggX13_products_X13_hasSign
set_option maxRecDepth 20000 in
theorem ggX13_products_X13_emit : GoodIn wsX13_products wsX13_emit := goodIn_r _ [20, 21, 22, 23, 63, 64, 65, 66, 67, 68, 69, 70, 71, 72, 73, 74, 75, 76, 77, 78, 79, 80, 81, 82, 83, 84, 85, 86, 87, 88, 89, 90, 91, 92, 93, 94, 95, 96, 97, 98, 99, 100, 101, 102, 103] (by decide +kernel) (by decide +kernel)
set_option maxRecDepth 20000 in
theorem gX13_products_X13_emit : GoodIn wsX13_products (wsV RX13 295 RX13 yX13_emit wsX13_emit) := goodIn_app (goodIn_of _ (by decide +kernel)) ggX13_products_X13_emit
theorem dX13_products_0 : decode cX13_products 0 = .ok (.aload_n 0, 1) := by decide +kernel
theorem dX13_products_1 : decode cX13_products 1 = .ok (.iload_n 1, 1) := by decide +kernel
theorem dX13_products_2 : decode cX13_products 2 = .ok (.invokevirtual 314, 3) := by decide +kernel
theorem dX13_products_5 : decode cX13_products 5 = .ok (.aload_n 0, 1) := by decide +kernel
theorem dX13_products_6 : decode cX13_products 6 = .ok (.bipush 42, 2) := by decide +kernel
theorem dX13_products_8 : decode cX13_products 8 = .ok (.invokevirtual 308, 3) := by decide +kernel
theorem dX13_products_11 : decode cX13_products 11 = .ok (.ifCond .eq 18, 3) := by decide +kernel
theorem dX13_products_14 : decode cX13_products 14 = .ok (.aload_n 0, 1) := by decide +kernel
theorem dX13_products_15 : decode cX13_products 15 = .ok (.iload_n 1, 1) := by decide +kernel
theorem dX13_products_16 : decode cX13_products 16 = .ok (.invokevirtual 314, 3) := by decide +kernel
theorem dX13_products_19 : decode cX13_products 19 = .ok (.aload_n 0, 1) := by decide +kernel
theorem dX13_products_20 : decode cX13_products 20 = .ok (.bipush 6, 2) := by decide +kernel
theorem dX13_products_22 : decode cX13_products 22 = .ok (.iconst 0, 1) := by decide +kernel
theorem dX13_products_23 : decode cX13_products 23 = .ok (.invokevirtual 295, 3) := by decide +kernel
theorem dX13_products_26 : decode cX13_products 26 = .ok (.goto (-21), 3) := by decide +kernel
theorem dX13_products_29 : decode cX13_products 29 = .ok (.return_, 1) := by decide +kernel
set_option maxRecDepth 20000 in
theorem ggX13_takePart_X13_wordHere : GoodIn wsX13_takePart wsX13_wordHere := goodIn_r _ [10, 11, 12, 13, 9, 14, 1, 2, 3, 5, 15, 63, 64, 65, 66, 67, 68, 69, 70, 71, 72, 73, 74, 75, 76, 77, 78, 79, 80, 81, 82, 83, 84, 85, 86, 87, 88, 89, 90, 91, 92, 93, 94, 95, 96, 97, 98, 99, 100, 101, 102, 103] (by decide +kernel) (by decide +kernel)
set_option maxRecDepth 20000 in
theorem gX13_takePart_X13_wordHere : GoodIn wsX13_takePart (wsV RX13 214 RX13 yX13_wordHere wsX13_wordHere) := goodIn_app (goodIn_of _ (by decide +kernel)) ggX13_takePart_X13_wordHere
set_option maxRecDepth 20000 in
theorem ggX13_takePart_X13_isSign : GoodIn wsX13_takePart wsX13_isSign := goodIn_r _ [19, 1, 2, 3, 5, 63, 64, 65, 66, 67, 68, 69, 70, 71, 72, 73, 74, 75, 76, 77, 78, 79, 80, 81, 82, 83, 84, 85, 86, 87, 88, 89, 90, 91, 92, 93, 94, 95, 96, 97, 98, 99, 100, 101, 102, 103] (by decide +kernel) (by decide +kernel)
set_option maxRecDepth 20000 in
theorem gX13_takePart_X13_isSign : GoodIn wsX13_takePart (wsV RX13 195 RX13 yX13_isSign wsX13_isSign) := goodIn_app (goodIn_of _ (by decide +kernel)) ggX13_takePart_X13_isSign
set_option maxRecDepth 20000 in
theorem ggX13_takePart_X13_isWord : GoodIn wsX13_takePart wsX13_isWord := goodIn_r _ [14, 1, 2, 3, 5, 15, 63, 64, 65, 66, 67, 68, 69, 70, 71, 72, 73, 74, 75, 76, 77, 78, 79, 80, 81, 82, 83, 84, 85, 86, 87, 88, 89, 90, 91, 92, 93, 94, 95, 96, 97, 98, 99, 100, 101, 102, 103] (by decide +kernel) (by decide +kernel)
set_option maxRecDepth 20000 in
theorem gX13_takePart_X13_isWord : GoodIn wsX13_takePart (wsV RX13 201 RX13 yX13_isWord wsX13_isWord) := goodIn_app (goodIn_of _ (by decide +kernel)) ggX13_takePart_X13_isWord
set_option maxRecDepth 20000 in
theorem ggX13_takePart_X13_wrong : GoodIn wsX13_takePart wsX13_wrong := goodIn_r _ [23, 1, 24, 3, 63, 64, 65, 66, 67, 68, 69, 70, 71, 72, 73, 74, 75, 76, 77, 78, 79, 80, 81, 82, 83, 84, 85, 86, 87, 88, 89, 90, 91, 92, 93, 94, 95, 96, 97, 98, 99, 100, 101, 102, 103] (by decide +kernel) (by decide +kernel)
set_option maxRecDepth 20000 in
theorem gX13_takePart_X13_wrong : GoodIn wsX13_takePart (wsV RX13 198 RX13 yX13_wrong wsX13_wrong) := goodIn_app (goodIn_of _ (by decide +kernel)) ggX13_takePart_X13_wrong
set_option maxRecDepth 20000 in
theorem ggX13_takePart_X13_hasWord : GoodIn wsX13_takePart wsX13_hasWord := goodIn_r _ [28, 3, 11, 12, 13, 9, 14, 1, 2, 5, 15, 63, 64, 65, 66, 67, 68, 69, 70, 71, 72, 73, 74, 75, 76, 77, 78, 79, 80, 81, 82, 83, 84, 85, 86, 87, 88, 89, 90, 91, 92, 93, 94, 95, 96, 97, 98, 99, 100, 101, 102, 103] (by decide +kernel) (by decide +kernel)
set_option maxRecDepth 20000 in
theorem gX13_takePart_X13_hasWord : GoodIn wsX13_takePart (wsV RX13 204 RX13 yX13_hasWord wsX13_hasWord) := goodIn_app (goodIn_of _ (by decide +kernel)) ggX13_takePart_X13_hasWord
set_option maxRecDepth 20000 in
theorem ggX13_takePart_X13_takePart : GoodIn wsX13_takePart wsX13_takePart := goodIn_r _ [0, 1, 2, 3, 4, 5, 6, 7, 8, 9, 10, 11, 12, 13, 14, 15, 16, 17, 18, 19, 20, 21, 22, 23, 24, 25, 26, 27, 28, 29, 30, 31, 32, 33, 34, 35, 36, 37, 38, 39, 40, 41, 42, 43, 44, 45, 46, 47, 48, 49, 50, 51, 52, 53, 54, 55, 56, 57, 58, 59, 60, 61, 62, 63, 64, 65, 66, 67, 68, 69, 70, 71, 72, 73, 74, 75, 76, 77, 78, 79, 80, 81, 82, 83, 84, 85, 86, 87, 88, 89, 90, 91, 92, 93, 94, 95, 96, 97, 98, 99, 100, 101, 102, 103] (by decide +kernel) (by decide +kernel)
set_option maxRecDepth 20000 in
theorem gX13_takePart_X13_takePart : GoodIn wsX13_takePart (wsV RX13 314 RX13 yX13_takePart wsX13_takePart) := goodIn_app (goodIn_of _ (by decide +kernel)) ggX13_takePart_X13_takePart
set_option maxRecDepth 20000 in
theorem ggX13_takePart_X13_emit : GoodIn wsX13_takePart wsX13_emit := goodIn_r _ [35, 36, 37, 38, 63, 64, 65, 66, 67, 68, 69, 70, 71, 72, 73, 74, 75, 76, 77, 78, 79, 80, 81, 82, 83, 84, 85, 86, 87, 88, 89, 90, 91, 92, 93, 94, 95, 96, 97, 98, 99, 100, 101, 102, 103] (by decide +kernel) (by decide +kernel)
set_option maxRecDepth 20000 in
theorem gX13_takePart_X13_emit : GoodIn wsX13_takePart (wsV RX13 295 RX13 yX13_emit wsX13_emit) := goodIn_app (goodIn_of _ (by decide +kernel)) ggX13_takePart_X13_emit
set_option maxRecDepth 20000 in
theorem ggX13_takePart_X13_hasSign : GoodIn wsX13_takePart wsX13_hasSign := goodIn_r _ [42, 3, 16, 17, 18, 9, 19, 1, 2, 5, 63, 64, 65, 66, 67, 68, 69, 70, 71, 72, 73, 74, 75, 76, 77, 78, 79, 80, 81, 82, 83, 84, 85, 86, 87, 88, 89, 90, 91, 92, 93, 94, 95, 96, 97, 98, 99, 100, 101, 102, 103] (by decide +kernel) (by decide +kernel)
set_option maxRecDepth 20000 in
theorem gX13_takePart_X13_hasSign : GoodIn wsX13_takePart (wsV RX13 308 RX13 yX13_hasSign wsX13_hasSign) := goodIn_app (goodIn_of _ (by decide +kernel)) ggX13_takePart_X13_hasSign
set_option maxRecDepth 20000 in
theorem ggX13_takePart_X13_all : GoodIn wsX13_takePart wsX13_all := goodIn_r _ [50, 3, 51, 52, 53, 9, 11, 12, 13, 14, 1, 2, 5, 15, 32, 33, 34, 35, 36, 37, 38, 54, 29, 30, 31, 39, 40, 41, 42, 16, 17, 18, 19, 55, 56, 57, 58, 0, 4, 6, 7, 8, 10, 20, 21, 22, 23, 24, 25, 26, 27, 28, 43, 44, 45, 46, 47, 48, 49, 59, 60, 61, 62, 63, 64, 65, 66, 67, 68, 69, 70, 71, 72, 73, 74, 75, 76, 77, 78, 79, 80, 81, 82, 83, 84, 85, 86, 87, 88, 89, 90, 91, 92, 93, 94, 95, 96, 97, 98, 99, 100, 101, 102, 103] (by decide +kernel) (by decide +kernel)
set_option maxRecDepth 20000 in
theorem gX13_takePart_X13_all : GoodIn wsX13_takePart (wsV RX13 292 RX13 yX13_all wsX13_all) := goodIn_app (goodIn_of _ (by decide +kernel)) ggX13_takePart_X13_all
set_option maxRecDepth 20000 in
theorem ggX13_takePart_X13_takeSign : GoodIn wsX13_takePart wsX13_takeSign := goodIn_r _ [49, 3, 16, 17, 18, 9, 19, 1, 2, 5, 20, 21, 22, 23, 24, 63, 64, 65, 66, 67, 68, 69, 70, 71, 72, 73, 74, 75, 76, 77, 78, 79, 80, 81, 82, 83, 84, 85, 86, 87, 88, 89, 90, 91, 92, 93, 94, 95, 96, 97, 98, 99, 100, 101, 102, 103] (by decide +kernel) (by decide +kernel)
set_option maxRecDepth 20000 in
theorem gX13_takePart_X13_takeSign : GoodIn wsX13_takePart (wsV RX13 248 RX13 yX13_takeSign wsX13_takeSign) := goodIn_app (goodIn_of _ (by decide +kernel)) ggX13_takePart_X13_takeSign
theorem dX13_takePart_0 : decode cX13_takePart 0 = .ok (.aload_n 0, 1) := by decide +kernel
theorem dX13_takePart_1 : decode cX13_takePart 1 = .ok (.getfield 192, 3) := by decide +kernel
theorem dX13_takePart_4 : decode cX13_takePart 4 = .ok (.ifCond .le 4, 3) := by decide +kernel
theorem dX13_takePart_7 : decode cX13_takePart 7 = .ok (.return_, 1) := by decide +kernel
theorem dX13_takePart_8 : decode cX13_takePart 8 = .ok (.aload_n 0, 1) := by decide +kernel
theorem dX13_takePart_9 : decode cX13_takePart 9 = .ok (.getfield 24, 3) := by decide +kernel
theorem dX13_takePart_12 : decode cX13_takePart 12 = .ok (.aload_n 0, 1) := by decide +kernel
theorem dX13_takePart_13 : decode cX13_takePart 13 = .ok (.getfield 189, 3) := by decide +kernel
theorem dX13_takePart_16 : decode cX13_takePart 16 = .ok (.iaload, 1) := by decide +kernel
theorem dX13_takePart_17 : decode cX13_takePart 17 = .ok (.iconst 2, 1) := by decide +kernel
theorem dX13_takePart_18 : decode cX13_takePart 18 = .ok (.if_icmp .ne 7, 3) := by decide +kernel
