theorem dX13_doesSo_37 : decode cX13_doesSo 37 = .ok (.iload_n 1, 1) := by decide +kernel
theorem dX13_doesSo_38 : decode cX13_doesSo 38 = .ok (.iconst 2, 1) := by decide +kernel
theorem dX13_doesSo_39 : decode cX13_doesSo 39 = .ok (.if_icmp .ne 16, 3) := by decide +kernel
theorem dX13_doesSo_42 : decode cX13_doesSo 42 = .ok (.aload_n 0, 1) := by decide +kernel
theorem dX13_doesSo_43 : decode cX13_doesSo 43 = .ok (.sipush 1386, 3) := by decide +kernel
theorem dX13_doesSo_46 : decode cX13_doesSo 46 = .ok (.iload_n 2, 1) := by decide +kernel
theorem dX13_doesSo_47 : decode cX13_doesSo 47 = .ok (.iload_n 3, 1) := by decide +kernel
theorem dX13_doesSo_48 : decode cX13_doesSo 48 = .ok (.invokevirtual 390, 3) := by decide +kernel
theorem dX13_doesSo_51 : decode cX13_doesSo 51 = .ok (.pop, 1) := by decide +kernel
theorem dX13_doesSo_52 : decode cX13_doesSo 52 = .ok (.goto 32, 3) := by decide +kernel
theorem dX13_doesSo_55 : decode cX13_doesSo 55 = .ok (.iload_n 1, 1) := by decide +kernel
theorem dX13_doesSo_56 : decode cX13_doesSo 56 = .ok (.iconst 3, 1) := by decide +kernel
theorem dX13_doesSo_57 : decode cX13_doesSo 57 = .ok (.if_icmp .ne 20, 3) := by decide +kernel
theorem dX13_doesSo_60 : decode cX13_doesSo 60 = .ok (.aload_n 0, 1) := by decide +kernel
theorem dX13_doesSo_61 : decode cX13_doesSo 61 = .ok (.getfield 125, 3) := by decide +kernel
theorem dX13_doesSo_64 : decode cX13_doesSo 64 = .ok (.sipush 1387, 3) := by decide +kernel
theorem dX13_doesSo_67 : decode cX13_doesSo 67 = .ok (.dup2, 1) := by decide +kernel
theorem dX13_doesSo_68 : decode cX13_doesSo 68 = .ok (.iaload, 1) := by decide +kernel
theorem dX13_doesSo_69 : decode cX13_doesSo 69 = .ok (.iconst 1, 1) := by decide +kernel
theorem dX13_doesSo_70 : decode cX13_doesSo 70 = .ok (.iload_n 2, 1) := by decide +kernel
theorem dX13_doesSo_71 : decode cX13_doesSo 71 = .ok (.ishl, 1) := by decide +kernel
theorem dX13_doesSo_72 : decode cX13_doesSo 72 = .ok (.ior, 1) := by decide +kernel
theorem dX13_doesSo_73 : decode cX13_doesSo 73 = .ok (.iastore, 1) := by decide +kernel
theorem dX13_doesSo_74 : decode cX13_doesSo 74 = .ok (.goto 10, 3) := by decide +kernel
theorem dX13_doesSo_77 : decode cX13_doesSo 77 = .ok (.aload_n 0, 1) := by decide +kernel
theorem dX13_doesSo_78 : decode cX13_doesSo 78 = .ok (.sipush 1386, 3) := by decide +kernel
theorem dX13_doesSo_81 : decode cX13_doesSo 81 = .ok (.invokevirtual 393, 3) := by decide +kernel
theorem dX13_doesSo_84 : decode cX13_doesSo 84 = .ok (.return_, 1) := by decide +kernel
set_option maxRecDepth 20000 in
theorem ggX13_coinsOf_X13_thieves : GoodIn wsX13_coinsOf wsX13_thieves := goodIn_r _ [6, 7, 8, 9, 10, 11, 12, 13, 14, 15, 16, 17, 18, 19, 20, 21, 22, 23, 24, 25, 26, 27, 28, 29, 30, 31, 32, 33, 34, 35, 36, 37, 38, 39, 40, 41, 42, 43, 44, 45, 46, 47, 48] (by decide +kernel) (by decide +kernel)
set_option maxRecDepth 20000 in
theorem gX13_coinsOf_X13_thieves : GoodIn wsX13_coinsOf (wsV RX13 320 RX13 yX13_thieves wsX13_thieves) := goodIn_app (goodIn_of _ (by decide +kernel)) ggX13_coinsOf_X13_thieves
theorem dX13_coinsOf_0 : decode cX13_coinsOf 0 = .ok (.iconst 0, 1) := by decide +kernel
theorem dX13_coinsOf_1 : decode cX13_coinsOf 1 = .ok (.istore_n 2, 1) := by decide +kernel
theorem dX13_coinsOf_2 : decode cX13_coinsOf 2 = .ok (.iconst 0, 1) := by decide +kernel
theorem dX13_coinsOf_3 : decode cX13_coinsOf 3 = .ok (.istore_n 3, 1) := by decide +kernel
theorem dX13_coinsOf_4 : decode cX13_coinsOf 4 = .ok (.iload_n 3, 1) := by decide +kernel
theorem dX13_coinsOf_5 : decode cX13_coinsOf 5 = .ok (.aload_n 0, 1) := by decide +kernel
theorem dX13_coinsOf_6 : decode cX13_coinsOf 6 = .ok (.invokevirtual 320, 3) := by decide +kernel
theorem dX13_coinsOf_9 : decode cX13_coinsOf 9 = .ok (.if_icmp .ge 23, 3) := by decide +kernel
theorem dX13_coinsOf_12 : decode cX13_coinsOf 12 = .ok (.iload_n 2, 1) := by decide +kernel
theorem dX13_coinsOf_13 : decode cX13_coinsOf 13 = .ok (.aload_n 0, 1) := by decide +kernel
theorem dX13_coinsOf_14 : decode cX13_coinsOf 14 = .ok (.getfield 125, 3) := by decide +kernel
theorem dX13_coinsOf_17 : decode cX13_coinsOf 17 = .ok (.iload_n 1, 1) := by decide +kernel
theorem dX13_coinsOf_18 : decode cX13_coinsOf 18 = .ok (.bipush 43, 2) := by decide +kernel
theorem dX13_coinsOf_20 : decode cX13_coinsOf 20 = .ok (.iadd, 1) := by decide +kernel
theorem dX13_coinsOf_21 : decode cX13_coinsOf 21 = .ok (.iload_n 3, 1) := by decide +kernel
theorem dX13_coinsOf_22 : decode cX13_coinsOf 22 = .ok (.iadd, 1) := by decide +kernel
theorem dX13_coinsOf_23 : decode cX13_coinsOf 23 = .ok (.iaload, 1) := by decide +kernel
theorem dX13_coinsOf_24 : decode cX13_coinsOf 24 = .ok (.iadd, 1) := by decide +kernel
theorem dX13_coinsOf_25 : decode cX13_coinsOf 25 = .ok (.istore_n 2, 1) := by decide +kernel
theorem dX13_coinsOf_26 : decode cX13_coinsOf 26 = .ok (.iinc 3 1, 3) := by decide +kernel
theorem dX13_coinsOf_29 : decode cX13_coinsOf 29 = .ok (.goto (-25), 3) := by decide +kernel
theorem dX13_coinsOf_32 : decode cX13_coinsOf 32 = .ok (.iload_n 2, 1) := by decide +kernel
theorem dX13_coinsOf_33 : decode cX13_coinsOf 33 = .ok (.ireturn, 1) := by decide +kernel
set_option maxRecDepth 20000 in
theorem ggX13_judged_X13_within : GoodIn wsX13_judged wsX13_within := goodIn_r _ [6] (by decide +kernel) (by decide +kernel)
set_option maxRecDepth 20000 in
theorem gX13_judged_X13_within : GoodIn wsX13_judged (va_wsS RX13 231 yX13_within wsX13_within) := goodIn_app (goodIn_of _ (by decide +kernel)) ggX13_judged_X13_within
set_option maxRecDepth 20000 in
theorem ggX13_judged_X13_starts : GoodIn wsX13_judged wsX13_starts := goodIn_r _ [10, 11, 12, 13, 14, 15, 5, 16, 17, 18, 19, 20, 91, 92, 93, 94, 95, 96, 97, 98, 99, 100, 101, 102, 103, 104, 105, 106, 107, 108, 109, 110, 111, 112, 113, 114, 115, 116, 117, 118, 119, 120, 121, 122, 123, 124, 125, 126, 127, 128, 129, 130, 131] (by decide +kernel) (by decide +kernel)
set_option maxRecDepth 20000 in
theorem gX13_judged_X13_starts : GoodIn wsX13_judged (wsV RX13 326 RX13 yX13_starts wsX13_starts) := goodIn_app (goodIn_of _ (by decide +kernel)) ggX13_judged_X13_starts
set_option maxRecDepth 20000 in
theorem ggX13_judged_X13_does : GoodIn wsX13_judged wsX13_does := goodIn_r _ [24, 2, 11, 25, 26, 27, 5, 28, 17, 18, 19, 20, 12, 29, 30, 31, 32, 33, 34, 35, 36, 37, 38, 39, 40, 41, 42, 43, 44, 45, 46, 47, 48, 49, 50, 51, 52, 53, 54, 55, 56, 57, 58, 59, 60, 61, 62, 63, 64, 65, 66, 67, 68, 69, 70, 71, 72, 73, 74, 75, 76, 77, 78, 79, 80, 81, 82, 83, 84, 85, 86, 91, 92, 93, 94, 95, 96, 97, 98, 99, 100, 101, 102, 103, 104, 105, 106, 107, 108, 109, 110, 111, 112, 113, 114, 115, 116, 117, 118, 119, 120, 121, 122, 123, 124, 125, 126, 127, 128, 129, 130, 131] (by decide +kernel) (by decide +kernel)
set_option maxRecDepth 20000 in
theorem gX13_judged_X13_does : GoodIn wsX13_judged (wsV RX13 400 RX13 yX13_does wsX13_does) := goodIn_app (goodIn_of _ (by decide +kernel)) ggX13_judged_X13_does
set_option maxRecDepth 20000 in
theorem ggX13_judged_X13_hanging : GoodIn wsX13_judged wsX13_hanging := goodIn_r _ [70, 11, 91, 92, 93, 94, 95, 96, 97, 98, 99, 100, 101, 102, 103, 104, 105, 106, 107, 108, 109, 110, 111, 112, 113, 114, 115, 116, 117, 118, 119, 120, 121, 122, 123, 124, 125, 126, 127, 128, 129, 130, 131] (by decide +kernel) (by decide +kernel)
set_option maxRecDepth 20000 in
theorem gX13_judged_X13_hanging : GoodIn wsX13_judged (wsV RX13 364 RX13 yX13_hanging wsX13_hanging) := goodIn_app (goodIn_of _ (by decide +kernel)) ggX13_judged_X13_hanging
set_option maxRecDepth 20000 in
theorem ggX13_judged_X13_coinsOf : GoodIn wsX13_judged wsX13_coinsOf := goodIn_r _ [90, 11, 13, 14, 15, 5, 16, 12, 91, 92, 93, 94, 95, 96, 97, 98, 99, 100, 101, 102, 103, 104, 105, 106, 107, 108, 109, 110, 111, 112, 113, 114, 115, 116, 117, 118, 119, 120, 121, 122, 123, 124, 125, 126, 127, 128, 129, 130, 131] (by decide +kernel) (by decide +kernel)
set_option maxRecDepth 20000 in
theorem gX13_judged_X13_coinsOf : GoodIn wsX13_judged (wsV RX13 403 RX13 yX13_coinsOf wsX13_coinsOf) := goodIn_app (goodIn_of _ (by decide +kernel)) ggX13_judged_X13_coinsOf
theorem dX13_judged_0 : decode cX13_judged 0 = .ok (.aload_n 0, 1) := by decide +kernel
theorem dX13_judged_1 : decode cX13_judged 1 = .ok (.iconst 0, 1) := by decide +kernel
theorem dX13_judged_2 : decode cX13_judged 2 = .ok (.putfield 1, 3) := by decide +kernel
theorem dX13_judged_5 : decode cX13_judged 5 = .ok (.iload_n 1, 1) := by decide +kernel
theorem dX13_judged_6 : decode cX13_judged 6 = .ok (.iconst 0, 1) := by decide +kernel
theorem dX13_judged_7 : decode cX13_judged 7 = .ok (.iconst 2, 1) := by decide +kernel
theorem dX13_judged_8 : decode cX13_judged 8 = .ok (.invokestatic 231, 3) := by decide +kernel
theorem dX13_judged_11 : decode cX13_judged 11 = .ok (.ifCond .ne 6, 3) := by decide +kernel
theorem dX13_judged_14 : decode cX13_judged 14 = .ok (.bipush (-2), 2) := by decide +kernel
theorem dX13_judged_16 : decode cX13_judged 16 = .ok (.ireturn, 1) := by decide +kernel
theorem dX13_judged_17 : decode cX13_judged 17 = .ok (.aload_n 0, 1) := by decide +kernel
theorem dX13_judged_18 : decode cX13_judged 18 = .ok (.sipush 1386, 3) := by decide +kernel
theorem dX13_judged_21 : decode cX13_judged 21 = .ok (.invokevirtual 326, 3) := by decide +kernel
theorem dX13_judged_24 : decode cX13_judged 24 = .ok (.iconst (-1), 1) := by decide +kernel
theorem dX13_judged_25 : decode cX13_judged 25 = .ok (.istore_n 2, 1) := by decide +kernel
theorem dX13_judged_26 : decode cX13_judged 26 = .ok (.iconst 0, 1) := by decide +kernel
theorem dX13_judged_27 : decode cX13_judged 27 = .ok (.istore_n 3, 1) := by decide +kernel
theorem dX13_judged_28 : decode cX13_judged 28 = .ok (.iload_n 3, 1) := by decide +kernel
theorem dX13_judged_29 : decode cX13_judged 29 = .ok (.aload_n 0, 1) := by decide +kernel
theorem dX13_judged_30 : decode cX13_judged 30 = .ok (.getfield 116, 3) := by decide +kernel
theorem dX13_judged_33 : decode cX13_judged 33 = .ok (.iconst 0, 1) := by decide +kernel
theorem dX13_judged_34 : decode cX13_judged 34 = .ok (.iaload, 1) := by decide +kernel
theorem dX13_judged_35 : decode cX13_judged 35 = .ok (.if_icmp .ge 35, 3) := by decide +kernel
theorem dX13_judged_38 : decode cX13_judged 38 = .ok (.aload_n 0, 1) := by decide +kernel
theorem dX13_judged_39 : decode cX13_judged 39 = .ok (.iconst 1, 1) := by decide +kernel
theorem dX13_judged_40 : decode cX13_judged 40 = .ok (.iconst 4, 1) := by decide +kernel
theorem dX13_judged_41 : decode cX13_judged 41 = .ok (.iload_n 3, 1) := by decide +kernel
theorem dX13_judged_42 : decode cX13_judged 42 = .ok (.imul, 1) := by decide +kernel
theorem dX13_judged_43 : decode cX13_judged 43 = .ok (.iadd, 1) := by decide +kernel
theorem dX13_judged_44 : decode cX13_judged 44 = .ok (.invokevirtual 400, 3) := by decide +kernel
theorem dX13_judged_47 : decode cX13_judged 47 = .ok (.istore 4, 2) := by decide +kernel
theorem dX13_judged_49 : decode cX13_judged 49 = .ok (.iload 4, 2) := by decide +kernel
theorem dX13_judged_51 : decode cX13_judged 51 = .ok (.ifCond .ne 11, 3) := by decide +kernel
theorem dX13_judged_54 : decode cX13_judged 54 = .ok (.iload_n 2, 1) := by decide +kernel
theorem dX13_judged_55 : decode cX13_judged 55 = .ok (.ifCond .ge 7, 3) := by decide +kernel
theorem dX13_judged_58 : decode cX13_judged 58 = .ok (.iload_n 3, 1) := by decide +kernel
theorem dX13_judged_59 : decode cX13_judged 59 = .ok (.goto 4, 3) := by decide +kernel
theorem dX13_judged_62 : decode cX13_judged 62 = .ok (.iload_n 2, 1) := by decide +kernel
theorem dX13_judged_63 : decode cX13_judged 63 = .ok (.istore_n 2, 1) := by decide +kernel
theorem dX13_judged_64 : decode cX13_judged 64 = .ok (.iinc 3 1, 3) := by decide +kernel
theorem dX13_judged_67 : decode cX13_judged 67 = .ok (.goto (-39), 3) := by decide +kernel
theorem dX13_judged_70 : decode cX13_judged 70 = .ok (.iload_n 1, 1) := by decide +kernel
theorem dX13_judged_71 : decode cX13_judged 71 = .ok (.ifCond .ne 7, 3) := by decide +kernel
theorem dX13_judged_74 : decode cX13_judged 74 = .ok (.iload_n 2, 1) := by decide +kernel
theorem dX13_judged_75 : decode cX13_judged 75 = .ok (.goto 25, 3) := by decide +kernel
theorem dX13_judged_78 : decode cX13_judged 78 = .ok (.iload_n 1, 1) := by decide +kernel
theorem dX13_judged_79 : decode cX13_judged 79 = .ok (.iconst 1, 1) := by decide +kernel
theorem dX13_judged_80 : decode cX13_judged 80 = .ok (.if_icmp .ne 13, 3) := by decide +kernel
theorem dX13_judged_83 : decode cX13_judged 83 = .ok (.aload_n 0, 1) := by decide +kernel
theorem dX13_judged_84 : decode cX13_judged 84 = .ok (.sipush 1386, 3) := by decide +kernel
theorem dX13_judged_87 : decode cX13_judged 87 = .ok (.invokevirtual 364, 3) := by decide +kernel
theorem dX13_judged_90 : decode cX13_judged 90 = .ok (.goto 10, 3) := by decide +kernel
theorem dX13_judged_93 : decode cX13_judged 93 = .ok (.aload_n 0, 1) := by decide +kernel
theorem dX13_judged_94 : decode cX13_judged 94 = .ok (.sipush 1386, 3) := by decide +kernel
theorem dX13_judged_97 : decode cX13_judged 97 = .ok (.invokevirtual 403, 3) := by decide +kernel
theorem dX13_judged_100 : decode cX13_judged 100 = .ok (.ireturn, 1) := by decide +kernel
theorem dX13_isTree_0 : decode cX13_isTree 0 = .ok (.iconst 1, 1) := by decide +kernel
theorem dX13_isTree_1 : decode cX13_isTree 1 = .ok (.istore_n 2, 1) := by decide +kernel
theorem dX13_isTree_2 : decode cX13_isTree 2 = .ok (.iconst 1, 1) := by decide +kernel
theorem dX13_isTree_3 : decode cX13_isTree 3 = .ok (.istore_n 3, 1) := by decide +kernel
theorem dX13_isTree_4 : decode cX13_isTree 4 = .ok (.iload_n 3, 1) := by decide +kernel
theorem dX13_isTree_5 : decode cX13_isTree 5 = .ok (.iload_n 1, 1) := by decide +kernel
theorem dX13_isTree_6 : decode cX13_isTree 6 = .ok (.if_icmp .ge 60, 3) := by decide +kernel
theorem dX13_isTree_9 : decode cX13_isTree 9 = .ok (.iload_n 2, 1) := by decide +kernel
theorem dX13_isTree_10 : decode cX13_isTree 10 = .ok (.ifCond .eq 56, 3) := by decide +kernel
theorem dX13_isTree_13 : decode cX13_isTree 13 = .ok (.iload_n 3, 1) := by decide +kernel
theorem dX13_isTree_14 : decode cX13_isTree 14 = .ok (.istore 4, 2) := by decide +kernel
theorem dX13_isTree_16 : decode cX13_isTree 16 = .ok (.iconst 0, 1) := by decide +kernel
theorem dX13_isTree_17 : decode cX13_isTree 17 = .ok (.istore 5, 2) := by decide +kernel
theorem dX13_isTree_19 : decode cX13_isTree 19 = .ok (.iload 5, 2) := by decide +kernel
theorem dX13_isTree_21 : decode cX13_isTree 21 = .ok (.iload_n 1, 1) := by decide +kernel
theorem dX13_isTree_22 : decode cX13_isTree 22 = .ok (.if_icmp .ge 27, 3) := by decide +kernel
theorem dX13_isTree_25 : decode cX13_isTree 25 = .ok (.iload 4, 2) := by decide +kernel
theorem dX13_isTree_27 : decode cX13_isTree 27 = .ok (.ifCond .ne 7, 3) := by decide +kernel
theorem dX13_isTree_30 : decode cX13_isTree 30 = .ok (.iconst 0, 1) := by decide +kernel
theorem dX13_isTree_31 : decode cX13_isTree 31 = .ok (.goto 10, 3) := by decide +kernel
theorem dX13_isTree_34 : decode cX13_isTree 34 = .ok (.aload_n 0, 1) := by decide +kernel
theorem dX13_isTree_35 : decode cX13_isTree 35 = .ok (.getfield 135, 3) := by decide +kernel
theorem dX13_isTree_38 : decode cX13_isTree 38 = .ok (.iload 4, 2) := by decide +kernel
theorem dX13_isTree_40 : decode cX13_isTree 40 = .ok (.iaload, 1) := by decide +kernel
theorem dX13_isTree_41 : decode cX13_isTree 41 = .ok (.istore 4, 2) := by decide +kernel
theorem dX13_isTree_43 : decode cX13_isTree 43 = .ok (.iinc 5 1, 3) := by decide +kernel
theorem dX13_isTree_46 : decode cX13_isTree 46 = .ok (.goto (-27), 3) := by decide +kernel
theorem dX13_isTree_49 : decode cX13_isTree 49 = .ok (.iload 4, 2) := by decide +kernel
theorem dX13_isTree_51 : decode cX13_isTree 51 = .ok (.ifCond .ne 7, 3) := by decide +kernel
theorem dX13_isTree_54 : decode cX13_isTree 54 = .ok (.iconst 1, 1) := by decide +kernel
theorem dX13_isTree_55 : decode cX13_isTree 55 = .ok (.goto 4, 3) := by decide +kernel
theorem dX13_isTree_58 : decode cX13_isTree 58 = .ok (.iconst 0, 1) := by decide +kernel
theorem dX13_isTree_59 : decode cX13_isTree 59 = .ok (.istore_n 2, 1) := by decide +kernel
theorem dX13_isTree_60 : decode cX13_isTree 60 = .ok (.iinc 3 1, 3) := by decide +kernel
theorem dX13_isTree_63 : decode cX13_isTree 63 = .ok (.goto (-59), 3) := by decide +kernel
theorem dX13_isTree_66 : decode cX13_isTree 66 = .ok (.iload_n 2, 1) := by decide +kernel
theorem dX13_isTree_67 : decode cX13_isTree 67 = .ok (.ireturn, 1) := by decide +kernel
set_option maxRecDepth 20000 in
theorem ggX13_trees_X13_looksAtTree : GoodIn wsX13_trees wsX13_looksAtTree := goodIn_r _ [7, 8, 9, 10, 1, 11, 12, 13, 6, 14, 26, 27, 28, 29, 30, 31, 32, 33, 34, 35, 36, 37, 38, 39, 40, 41, 42, 43, 44, 45, 46, 47, 48, 49, 50, 51, 52, 53, 54, 55, 56, 57, 58, 59, 60, 61, 62, 63, 64, 65, 66] (by decide +kernel) (by decide +kernel)
set_option maxRecDepth 20000 in
theorem gX13_trees_X13_looksAtTree : GoodIn wsX13_trees (wsV RX13 406 RX13 yX13_looksAtTree wsX13_looksAtTree) := goodIn_app (goodIn_of _ (by decide +kernel)) ggX13_trees_X13_looksAtTree
set_option maxRecDepth 20000 in
theorem ggX13_trees_X13_distanceOf : GoodIn wsX13_trees wsX13_distanceOf := goodIn_r _ [18, 19, 20, 21, 6, 22, 26, 27, 28, 29, 30, 31, 32, 33, 34, 35, 36, 37, 38, 39, 40, 41, 42, 43, 44, 45, 46, 47, 48, 49, 50, 51, 52, 53, 54, 55, 56, 57, 58, 59, 60, 61, 62, 63, 64, 65, 66] (by decide +kernel) (by decide +kernel)
set_option maxRecDepth 20000 in
theorem gX13_trees_X13_distanceOf : GoodIn wsX13_trees (wsV RX13 352 RX13 yX13_distanceOf wsX13_distanceOf) := goodIn_app (goodIn_of _ (by decide +kernel)) ggX13_trees_X13_distanceOf
set_option maxRecDepth 20000 in
theorem ggX13_trees_X13_trees : GoodIn wsX13_trees wsX13_trees := goodIn_r _ [0, 1, 2, 3, 4, 5, 6, 7, 8, 9, 10, 11, 12, 13, 14, 15, 16, 17, 18, 19, 20, 21, 22, 23, 24, 25, 26, 27, 28, 29, 30, 31, 32, 33, 34, 35, 36, 37, 38, 39, 40, 41, 42, 43, 44, 45, 46, 47, 48, 49, 50, 51, 52, 53, 54, 55, 56, 57, 58, 59, 60, 61, 62, 63, 64, 65, 66] (by decide +kernel) (by decide +kernel)
set_option maxRecDepth 20000 in
theorem gX13_trees_X13_trees : GoodIn wsX13_trees (wsV RX13 409 RX13 yX13_trees wsX13_trees) := goodIn_app (goodIn_of _ (by decide +kernel)) ggX13_trees_X13_trees
theorem dX13_trees_0 : decode cX13_trees 0 = .ok (.iload_n 2, 1) := by decide +kernel
theorem dX13_trees_1 : decode cX13_trees 1 = .ok (.iload_n 1, 1) := by decide +kernel
theorem dX13_trees_2 : decode cX13_trees 2 = .ok (.if_icmp .ne 10, 3) := by decide +kernel
theorem dX13_trees_5 : decode cX13_trees 5 = .ok (.aload_n 0, 1) := by decide +kernel
theorem dX13_trees_6 : decode cX13_trees 6 = .ok (.iload_n 1, 1) := by decide +kernel
theorem dX13_trees_7 : decode cX13_trees 7 = .ok (.iload_n 3, 1) := by decide +kernel
theorem dX13_trees_8 : decode cX13_trees 8 = .ok (.invokevirtual 406, 3) := by decide +kernel
theorem dX13_trees_11 : decode cX13_trees 11 = .ok (.return_, 1) := by decide +kernel
theorem dX13_trees_12 : decode cX13_trees 12 = .ok (.iconst 0, 1) := by decide +kernel
theorem dX13_trees_13 : decode cX13_trees 13 = .ok (.istore 4, 2) := by decide +kernel
theorem dX13_trees_15 : decode cX13_trees 15 = .ok (.iload 4, 2) := by decide +kernel
theorem dX13_trees_17 : decode cX13_trees 17 = .ok (.iload_n 1, 1) := by decide +kernel
theorem dX13_trees_18 : decode cX13_trees 18 = .ok (.if_icmp .ge 50, 3) := by decide +kernel
theorem dX13_trees_21 : decode cX13_trees 21 = .ok (.iload 4, 2) := by decide +kernel
theorem dX13_trees_23 : decode cX13_trees 23 = .ok (.iload_n 2, 1) := by decide +kernel
theorem dX13_trees_24 : decode cX13_trees 24 = .ok (.if_icmp .eq 38, 3) := by decide +kernel
theorem dX13_trees_27 : decode cX13_trees 27 = .ok (.aload_n 0, 1) := by decide +kernel
theorem dX13_trees_28 : decode cX13_trees 28 = .ok (.getfield 135, 3) := by decide +kernel
theorem dX13_trees_31 : decode cX13_trees 31 = .ok (.iload_n 2, 1) := by decide +kernel
theorem dX13_trees_32 : decode cX13_trees 32 = .ok (.iload 4, 2) := by decide +kernel
theorem dX13_trees_34 : decode cX13_trees 34 = .ok (.iastore, 1) := by decide +kernel
theorem dX13_trees_35 : decode cX13_trees 35 = .ok (.aload_n 0, 1) := by decide +kernel
theorem dX13_trees_36 : decode cX13_trees 36 = .ok (.iload_n 1, 1) := by decide +kernel
theorem dX13_trees_37 : decode cX13_trees 37 = .ok (.iload_n 2, 1) := by decide +kernel
theorem dX13_trees_38 : decode cX13_trees 38 = .ok (.iconst 1, 1) := by decide +kernel
theorem dX13_trees_39 : decode cX13_trees 39 = .ok (.iadd, 1) := by decide +kernel
theorem dX13_trees_40 : decode cX13_trees 40 = .ok (.iload_n 3, 1) := by decide +kernel
theorem dX13_trees_41 : decode cX13_trees 41 = .ok (.aload_n 0, 1) := by decide +kernel
theorem dX13_trees_42 : decode cX13_trees 42 = .ok (.aload_n 0, 1) := by decide +kernel
theorem dX13_trees_43 : decode cX13_trees 43 = .ok (.getfield 132, 3) := by decide +kernel
theorem dX13_trees_46 : decode cX13_trees 46 = .ok (.iload_n 2, 1) := by decide +kernel
theorem dX13_trees_47 : decode cX13_trees 47 = .ok (.iaload, 1) := by decide +kernel
theorem dX13_trees_48 : decode cX13_trees 48 = .ok (.aload_n 0, 1) := by decide +kernel
theorem dX13_trees_49 : decode cX13_trees 49 = .ok (.getfield 132, 3) := by decide +kernel
theorem dX13_trees_52 : decode cX13_trees 52 = .ok (.iload 4, 2) := by decide +kernel
theorem dX13_trees_54 : decode cX13_trees 54 = .ok (.iaload, 1) := by decide +kernel
theorem dX13_trees_55 : decode cX13_trees 55 = .ok (.invokevirtual 352, 3) := by decide +kernel
theorem dX13_trees_58 : decode cX13_trees 58 = .ok (.iadd, 1) := by decide +kernel
theorem dX13_trees_59 : decode cX13_trees 59 = .ok (.invokevirtual 409, 3) := by decide +kernel
theorem dX13_trees_62 : decode cX13_trees 62 = .ok (.iinc 4 1, 3) := by decide +kernel
theorem dX13_trees_65 : decode cX13_trees 65 = .ok (.goto (-50), 3) := by decide +kernel
theorem dX13_trees_68 : decode cX13_trees 68 = .ok (.return_, 1) := by decide +kernel
set_option maxRecDepth 20000 in
theorem ggX13_looksAtTree_X13_isTree : GoodIn wsX13_looksAtTree wsX13_isTree := goodIn_r _ [9, 4, 10, 11, 12, 13, 14, 15, 16, 17, 18, 19, 20, 21, 22, 23, 24, 25, 26, 27, 28, 29, 30, 31, 32, 33, 34, 35, 36, 37, 38, 39, 40, 41, 42, 43, 44, 45, 46, 47, 48, 49, 50] (by decide +kernel) (by decide +kernel)
set_option maxRecDepth 20000 in
theorem gX13_looksAtTree_X13_isTree : GoodIn wsX13_looksAtTree (wsV RX13 415 RX13 yX13_isTree wsX13_isTree) := goodIn_app (goodIn_of _ (by decide +kernel)) ggX13_looksAtTree_X13_isTree
theorem dX13_looksAtTree_0 : decode cX13_looksAtTree 0 = .ok (.aload_n 0, 1) := by decide +kernel
theorem dX13_looksAtTree_1 : decode cX13_looksAtTree 1 = .ok (.getfield 412, 3) := by decide +kernel
theorem dX13_looksAtTree_4 : decode cX13_looksAtTree 4 = .ok (.ifCond .lt 11, 3) := by decide +kernel
theorem dX13_looksAtTree_7 : decode cX13_looksAtTree 7 = .ok (.iload_n 2, 1) := by decide +kernel
theorem dX13_looksAtTree_8 : decode cX13_looksAtTree 8 = .ok (.aload_n 0, 1) := by decide +kernel
theorem dX13_looksAtTree_9 : decode cX13_looksAtTree 9 = .ok (.getfield 412, 3) := by decide +kernel
theorem dX13_looksAtTree_12 : decode cX13_looksAtTree 12 = .ok (.if_icmp .gt 11, 3) := by decide +kernel
theorem dX13_looksAtTree_15 : decode cX13_looksAtTree 15 = .ok (.aload_n 0, 1) := by decide +kernel
theorem dX13_looksAtTree_16 : decode cX13_looksAtTree 16 = .ok (.iload_n 1, 1) := by decide +kernel
theorem dX13_looksAtTree_17 : decode cX13_looksAtTree 17 = .ok (.invokevirtual 415, 3) := by decide +kernel
theorem dX13_looksAtTree_20 : decode cX13_looksAtTree 20 = .ok (.ifCond .ne 4, 3) := by decide +kernel
theorem dX13_looksAtTree_23 : decode cX13_looksAtTree 23 = .ok (.return_, 1) := by decide +kernel
theorem dX13_looksAtTree_24 : decode cX13_looksAtTree 24 = .ok (.aload_n 0, 1) := by decide +kernel
theorem dX13_looksAtTree_25 : decode cX13_looksAtTree 25 = .ok (.getfield 412, 3) := by decide +kernel
theorem dX13_looksAtTree_28 : decode cX13_looksAtTree 28 = .ok (.ifCond .lt 11, 3) := by decide +kernel
theorem dX13_looksAtTree_31 : decode cX13_looksAtTree 31 = .ok (.iload_n 2, 1) := by decide +kernel
theorem dX13_looksAtTree_32 : decode cX13_looksAtTree 32 = .ok (.aload_n 0, 1) := by decide +kernel
theorem dX13_looksAtTree_33 : decode cX13_looksAtTree 33 = .ok (.getfield 412, 3) := by decide +kernel
theorem dX13_looksAtTree_36 : decode cX13_looksAtTree 36 = .ok (.if_icmp .ge 38, 3) := by decide +kernel
theorem dX13_looksAtTree_39 : decode cX13_looksAtTree 39 = .ok (.aload_n 0, 1) := by decide +kernel
theorem dX13_looksAtTree_40 : decode cX13_looksAtTree 40 = .ok (.iload_n 2, 1) := by decide +kernel
theorem dX13_looksAtTree_41 : decode cX13_looksAtTree 41 = .ok (.putfield 412, 3) := by decide +kernel
theorem dX13_looksAtTree_44 : decode cX13_looksAtTree 44 = .ok (.aload_n 0, 1) := by decide +kernel
theorem dX13_looksAtTree_45 : decode cX13_looksAtTree 45 = .ok (.iconst 0, 1) := by decide +kernel
theorem dX13_looksAtTree_46 : decode cX13_looksAtTree 46 = .ok (.putfield 418, 3) := by decide +kernel
theorem dX13_looksAtTree_49 : decode cX13_looksAtTree 49 = .ok (.iconst 1, 1) := by decide +kernel
theorem dX13_looksAtTree_50 : decode cX13_looksAtTree 50 = .ok (.istore_n 3, 1) := by decide +kernel
theorem dX13_looksAtTree_51 : decode cX13_looksAtTree 51 = .ok (.iload_n 3, 1) := by decide +kernel
theorem dX13_looksAtTree_52 : decode cX13_looksAtTree 52 = .ok (.iload_n 1, 1) := by decide +kernel
theorem dX13_looksAtTree_53 : decode cX13_looksAtTree 53 = .ok (.if_icmp .ge 21, 3) := by decide +kernel
theorem dX13_looksAtTree_56 : decode cX13_looksAtTree 56 = .ok (.aload_n 0, 1) := by decide +kernel
theorem dX13_looksAtTree_57 : decode cX13_looksAtTree 57 = .ok (.getfield 138, 3) := by decide +kernel
theorem dX13_looksAtTree_60 : decode cX13_looksAtTree 60 = .ok (.iload_n 3, 1) := by decide +kernel
theorem dX13_looksAtTree_61 : decode cX13_looksAtTree 61 = .ok (.aload_n 0, 1) := by decide +kernel
theorem dX13_looksAtTree_62 : decode cX13_looksAtTree 62 = .ok (.getfield 135, 3) := by decide +kernel
theorem dX13_looksAtTree_65 : decode cX13_looksAtTree 65 = .ok (.iload_n 3, 1) := by decide +kernel
theorem dX13_looksAtTree_66 : decode cX13_looksAtTree 66 = .ok (.iaload, 1) := by decide +kernel
theorem dX13_looksAtTree_67 : decode cX13_looksAtTree 67 = .ok (.iastore, 1) := by decide +kernel
theorem dX13_looksAtTree_68 : decode cX13_looksAtTree 68 = .ok (.iinc 3 1, 3) := by decide +kernel
theorem dX13_looksAtTree_71 : decode cX13_looksAtTree 71 = .ok (.goto (-20), 3) := by decide +kernel
theorem dX13_looksAtTree_74 : decode cX13_looksAtTree 74 = .ok (.aload_n 0, 1) := by decide +kernel
theorem dX13_looksAtTree_75 : decode cX13_looksAtTree 75 = .ok (.dup, 1) := by decide +kernel
theorem dX13_looksAtTree_76 : decode cX13_looksAtTree 76 = .ok (.getfield 418, 3) := by decide +kernel
theorem dX13_looksAtTree_79 : decode cX13_looksAtTree 79 = .ok (.iconst 1, 1) := by decide +kernel
theorem dX13_looksAtTree_80 : decode cX13_looksAtTree 80 = .ok (.iadd, 1) := by decide +kernel
theorem dX13_looksAtTree_81 : decode cX13_looksAtTree 81 = .ok (.putfield 418, 3) := by decide +kernel
theorem dX13_looksAtTree_84 : decode cX13_looksAtTree 84 = .ok (.return_, 1) := by decide +kernel
set_option maxRecDepth 20000 in
theorem ggX13_areThere_X13_within : GoodIn wsX13_areThere wsX13_within := goodIn_r _ [5] (by decide +kernel) (by decide +kernel)
set_option maxRecDepth 20000 in
theorem gX13_areThere_X13_within : GoodIn wsX13_areThere (va_wsS RX13 231 yX13_within wsX13_within) := goodIn_app (goodIn_of _ (by decide +kernel)) ggX13_areThere_X13_within
theorem dX13_areThere_0 : decode cX13_areThere 0 = .ok (.iload_n 1, 1) := by decide +kernel
theorem dX13_areThere_1 : decode cX13_areThere 1 = .ok (.iconst 0, 1) := by decide +kernel
theorem dX13_areThere_2 : decode cX13_areThere 2 = .ok (.iconst 1, 1) := by decide +kernel
theorem dX13_areThere_3 : decode cX13_areThere 3 = .ok (.aload_n 0, 1) := by decide +kernel
theorem dX13_areThere_4 : decode cX13_areThere 4 = .ok (.getfield 125, 3) := by decide +kernel
theorem dX13_areThere_7 : decode cX13_areThere 7 = .ok (.iconst 2, 1) := by decide +kernel
theorem dX13_areThere_8 : decode cX13_areThere 8 = .ok (.iaload, 1) := by decide +kernel
theorem dX13_areThere_9 : decode cX13_areThere 9 = .ok (.ishl, 1) := by decide +kernel
theorem dX13_areThere_10 : decode cX13_areThere 10 = .ok (.iconst 1, 1) := by decide +kernel
theorem dX13_areThere_11 : decode cX13_areThere 11 = .ok (.isub, 1) := by decide +kernel
theorem dX13_areThere_12 : decode cX13_areThere 12 = .ok (.invokestatic 231, 3) := by decide +kernel
theorem dX13_areThere_15 : decode cX13_areThere 15 = .ok (.ireturn, 1) := by decide +kernel
set_option maxRecDepth 20000 in
theorem ggX13_tree_X13_bits : GoodIn wsX13_tree wsX13_bits := goodIn_r _ [9] (by decide +kernel) (by decide +kernel)
set_option maxRecDepth 20000 in
theorem gX13_tree_X13_bits : GoodIn wsX13_tree (va_wsS RX13 339 yX13_bits wsX13_bits) := goodIn_app (goodIn_of _ (by decide +kernel)) ggX13_tree_X13_bits
set_option maxRecDepth 20000 in
theorem ggX13_tree_X13_areThere : GoodIn wsX13_tree wsX13_areThere := goodIn_r _ [13, 14, 15, 16, 8, 17, 35, 36, 37, 38, 39, 40, 41, 42, 43, 44, 45, 46, 47, 48, 49, 50, 51, 52, 53, 54, 55, 56, 57, 58, 59, 60, 61, 62, 63, 64, 65, 66, 67, 68, 69, 70, 71, 72, 73, 74, 75] (by decide +kernel) (by decide +kernel)
set_option maxRecDepth 20000 in
theorem gX13_tree_X13_areThere : GoodIn wsX13_tree (wsV RX13 421 RX13 yX13_areThere wsX13_areThere) := goodIn_app (goodIn_of _ (by decide +kernel)) ggX13_tree_X13_areThere
set_option maxRecDepth 20000 in
theorem ggX13_tree_X13_within : GoodIn wsX13_tree wsX13_within := goodIn_r _ [17] (by decide +kernel) (by decide +kernel)
set_option maxRecDepth 20000 in
theorem gX13_tree_X13_within : GoodIn wsX13_tree (va_wsS RX13 231 yX13_within wsX13_within) := goodIn_app (goodIn_of _ (by decide +kernel)) ggX13_tree_X13_within
set_option maxRecDepth 20000 in
theorem ggX13_tree_X13_trees : GoodIn wsX13_tree wsX13_trees := goodIn_r _ [21, 22, 2, 23, 24, 25, 8, 26, 3, 4, 5, 27, 28, 29, 30, 31, 32, 33, 34, 14, 6, 7, 9, 18, 19, 20, 35, 36, 37, 38, 39, 40, 41, 42, 43, 44, 45, 46, 47, 48, 49, 50, 51, 52, 53, 54, 55, 56, 57, 58, 59, 60, 61, 62, 63, 64, 65, 66, 67, 68, 69, 70, 71, 72, 73, 74, 75] (by decide +kernel) (by decide +kernel)
set_option maxRecDepth 20000 in
theorem gX13_tree_X13_trees : GoodIn wsX13_tree (wsV RX13 409 RX13 yX13_trees wsX13_trees) := goodIn_app (goodIn_of _ (by decide +kernel)) ggX13_tree_X13_trees
theorem dX13_tree_0 : decode cX13_tree 0 = .ok (.aload_n 0, 1) := by decide +kernel
theorem dX13_tree_1 : decode cX13_tree 1 = .ok (.iconst 0, 1) := by decide +kernel
theorem dX13_tree_2 : decode cX13_tree 2 = .ok (.putfield 1, 3) := by decide +kernel
theorem dX13_tree_5 : decode cX13_tree 5 = .ok (.iload_n 1, 1) := by decide +kernel
theorem dX13_tree_6 : decode cX13_tree 6 = .ok (.invokestatic 339, 3) := by decide +kernel
theorem dX13_tree_9 : decode cX13_tree 9 = .ok (.istore_n 3, 1) := by decide +kernel
theorem dX13_tree_10 : decode cX13_tree 10 = .ok (.aload_n 0, 1) := by decide +kernel
theorem dX13_tree_11 : decode cX13_tree 11 = .ok (.iload_n 1, 1) := by decide +kernel
theorem dX13_tree_12 : decode cX13_tree 12 = .ok (.invokevirtual 421, 3) := by decide +kernel
theorem dX13_tree_15 : decode cX13_tree 15 = .ok (.ifCond .eq 22, 3) := by decide +kernel
theorem dX13_tree_18 : decode cX13_tree 18 = .ok (.iload_n 3, 1) := by decide +kernel
theorem dX13_tree_19 : decode cX13_tree 19 = .ok (.iconst 1, 1) := by decide +kernel
theorem dX13_tree_20 : decode cX13_tree 20 = .ok (.bipush 6, 2) := by decide +kernel
theorem dX13_tree_22 : decode cX13_tree 22 = .ok (.invokestatic 231, 3) := by decide +kernel
theorem dX13_tree_25 : decode cX13_tree 25 = .ok (.ifCond .eq 12, 3) := by decide +kernel
theorem dX13_tree_28 : decode cX13_tree 28 = .ok (.iload_n 2, 1) := by decide +kernel
theorem dX13_tree_29 : decode cX13_tree 29 = .ok (.iconst 0, 1) := by decide +kernel
theorem dX13_tree_30 : decode cX13_tree 30 = .ok (.iload_n 3, 1) := by decide +kernel
theorem dX13_tree_31 : decode cX13_tree 31 = .ok (.invokestatic 231, 3) := by decide +kernel
theorem dX13_tree_34 : decode cX13_tree 34 = .ok (.ifCond .ne 5, 3) := by decide +kernel
theorem dX13_tree_37 : decode cX13_tree 37 = .ok (.iconst (-1), 1) := by decide +kernel
theorem dX13_tree_38 : decode cX13_tree 38 = .ok (.ireturn, 1) := by decide +kernel
theorem dX13_tree_39 : decode cX13_tree 39 = .ok (.iconst 0, 1) := by decide +kernel
theorem dX13_tree_40 : decode cX13_tree 40 = .ok (.istore 4, 2) := by decide +kernel
theorem dX13_tree_42 : decode cX13_tree 42 = .ok (.iconst 0, 1) := by decide +kernel
theorem dX13_tree_43 : decode cX13_tree 43 = .ok (.istore 5, 2) := by decide +kernel
theorem dX13_tree_45 : decode cX13_tree 45 = .ok (.iload 5, 2) := by decide +kernel
theorem dX13_tree_47 : decode cX13_tree 47 = .ok (.bipush 8, 2) := by decide +kernel
theorem dX13_tree_49 : decode cX13_tree 49 = .ok (.if_icmp .ge 31, 3) := by decide +kernel
theorem dX13_tree_52 : decode cX13_tree 52 = .ok (.iload_n 1, 1) := by decide +kernel
theorem dX13_tree_53 : decode cX13_tree 53 = .ok (.iload 5, 2) := by decide +kernel
theorem dX13_tree_55 : decode cX13_tree 55 = .ok (.ishr, 1) := by decide +kernel
theorem dX13_tree_56 : decode cX13_tree 56 = .ok (.iconst 1, 1) := by decide +kernel
theorem dX13_tree_57 : decode cX13_tree 57 = .ok (.iand, 1) := by decide +kernel
theorem dX13_tree_58 : decode cX13_tree 58 = .ok (.iconst 1, 1) := by decide +kernel
theorem dX13_tree_59 : decode cX13_tree 59 = .ok (.if_icmp .ne 15, 3) := by decide +kernel
theorem dX13_tree_62 : decode cX13_tree 62 = .ok (.aload_n 0, 1) := by decide +kernel
theorem dX13_tree_63 : decode cX13_tree 63 = .ok (.getfield 132, 3) := by decide +kernel
theorem dX13_tree_66 : decode cX13_tree 66 = .ok (.iload 4, 2) := by decide +kernel
theorem dX13_tree_68 : decode cX13_tree 68 = .ok (.iload 5, 2) := by decide +kernel
theorem dX13_tree_70 : decode cX13_tree 70 = .ok (.iastore, 1) := by decide +kernel
theorem dX13_tree_71 : decode cX13_tree 71 = .ok (.iinc 4 1, 3) := by decide +kernel
theorem dX13_tree_74 : decode cX13_tree 74 = .ok (.iinc 5 1, 3) := by decide +kernel
theorem dX13_tree_77 : decode cX13_tree 77 = .ok (.goto (-32), 3) := by decide +kernel
theorem dX13_tree_80 : decode cX13_tree 80 = .ok (.aload_n 0, 1) := by decide +kernel
theorem dX13_tree_81 : decode cX13_tree 81 = .ok (.iconst (-1), 1) := by decide +kernel
theorem dX13_tree_82 : decode cX13_tree 82 = .ok (.putfield 412, 3) := by decide +kernel
theorem dX13_tree_85 : decode cX13_tree 85 = .ok (.aload_n 0, 1) := by decide +kernel
theorem dX13_tree_86 : decode cX13_tree 86 = .ok (.iload_n 3, 1) := by decide +kernel
theorem dX13_tree_87 : decode cX13_tree 87 = .ok (.iconst 1, 1) := by decide +kernel
theorem dX13_tree_88 : decode cX13_tree 88 = .ok (.iconst 0, 1) := by decide +kernel
theorem dX13_tree_89 : decode cX13_tree 89 = .ok (.invokevirtual 409, 3) := by decide +kernel
theorem dX13_tree_92 : decode cX13_tree 92 = .ok (.iload_n 2, 1) := by decide +kernel
theorem dX13_tree_93 : decode cX13_tree 93 = .ok (.ifCond .ne 10, 3) := by decide +kernel
theorem dX13_tree_96 : decode cX13_tree 96 = .ok (.aload_n 0, 1) := by decide +kernel
theorem dX13_tree_97 : decode cX13_tree 97 = .ok (.getfield 412, 3) := by decide +kernel
theorem dX13_tree_100 : decode cX13_tree 100 = .ok (.goto 28, 3) := by decide +kernel
theorem dX13_tree_103 : decode cX13_tree 103 = .ok (.iload_n 2, 1) := by decide +kernel
theorem dX13_tree_104 : decode cX13_tree 104 = .ok (.iconst 1, 1) := by decide +kernel
theorem dX13_tree_105 : decode cX13_tree 105 = .ok (.if_icmp .ne 10, 3) := by decide +kernel
theorem dX13_tree_108 : decode cX13_tree 108 = .ok (.aload_n 0, 1) := by decide +kernel
theorem dX13_tree_109 : decode cX13_tree 109 = .ok (.getfield 418, 3) := by decide +kernel
theorem dX13_tree_112 : decode cX13_tree 112 = .ok (.goto 16, 3) := by decide +kernel
theorem dX13_tree_115 : decode cX13_tree 115 = .ok (.aload_n 0, 1) := by decide +kernel
theorem dX13_tree_116 : decode cX13_tree 116 = .ok (.getfield 132, 3) := by decide +kernel
theorem dX13_tree_119 : decode cX13_tree 119 = .ok (.aload_n 0, 1) := by decide +kernel
theorem dX13_tree_120 : decode cX13_tree 120 = .ok (.getfield 138, 3) := by decide +kernel
theorem dX13_tree_123 : decode cX13_tree 123 = .ok (.iload_n 2, 1) := by decide +kernel
theorem dX13_tree_124 : decode cX13_tree 124 = .ok (.iconst 1, 1) := by decide +kernel
theorem dX13_tree_125 : decode cX13_tree 125 = .ok (.isub, 1) := by decide +kernel
theorem dX13_tree_126 : decode cX13_tree 126 = .ok (.iaload, 1) := by decide +kernel
theorem dX13_tree_127 : decode cX13_tree 127 = .ok (.iaload, 1) := by decide +kernel
theorem dX13_tree_128 : decode cX13_tree 128 = .ok (.ireturn, 1) := by decide +kernel
set_option maxRecDepth 20000 in
theorem ggX13_kin_X13_isPiece : GoodIn wsX13_kin wsX13_isPiece := goodIn_r _ [7, 2, 8, 9, 10, 11, 12, 13, 14, 15, 16, 17, 18, 19, 20, 21, 22, 23, 24, 25, 26, 27, 28, 29, 30, 31, 32, 33, 34, 35, 36, 37, 38, 39, 40, 41, 42, 43, 44, 45, 46, 47, 48] (by decide +kernel) (by decide +kernel)
set_option maxRecDepth 20000 in
theorem gX13_kin_X13_isPiece : GoodIn wsX13_kin (wsV RX13 345 RX13 yX13_isPiece wsX13_isPiece) := goodIn_app (goodIn_of _ (by decide +kernel)) ggX13_kin_X13_isPiece
theorem dX13_kin_0 : decode cX13_kin 0 = .ok (.aload_n 0, 1) := by decide +kernel
theorem dX13_kin_1 : decode cX13_kin 1 = .ok (.iconst 0, 1) := by decide +kernel
theorem dX13_kin_2 : decode cX13_kin 2 = .ok (.putfield 1, 3) := by decide +kernel
theorem dX13_kin_5 : decode cX13_kin 5 = .ok (.aload_n 0, 1) := by decide +kernel
theorem dX13_kin_6 : decode cX13_kin 6 = .ok (.iconst 0, 1) := by decide +kernel
theorem dX13_kin_7 : decode cX13_kin 7 = .ok (.iload_n 1, 1) := by decide +kernel
theorem dX13_kin_8 : decode cX13_kin 8 = .ok (.invokevirtual 345, 3) := by decide +kernel
theorem dX13_kin_11 : decode cX13_kin 11 = .ok (.ifCond .ne 5, 3) := by decide +kernel
theorem dX13_kin_14 : decode cX13_kin 14 = .ok (.iconst (-1), 1) := by decide +kernel
theorem dX13_kin_15 : decode cX13_kin 15 = .ok (.ireturn, 1) := by decide +kernel
theorem dX13_kin_16 : decode cX13_kin 16 = .ok (.iconst 0, 1) := by decide +kernel
theorem dX13_kin_17 : decode cX13_kin 17 = .ok (.istore_n 2, 1) := by decide +kernel
theorem dX13_kin_18 : decode cX13_kin 18 = .ok (.iload_n 1, 1) := by decide +kernel
theorem dX13_kin_19 : decode cX13_kin 19 = .ok (.iconst 1, 1) := by decide +kernel
theorem dX13_kin_20 : decode cX13_kin 20 = .ok (.iadd, 1) := by decide +kernel
theorem dX13_kin_21 : decode cX13_kin 21 = .ok (.istore_n 3, 1) := by decide +kernel
theorem dX13_kin_22 : decode cX13_kin 22 = .ok (.iload_n 3, 1) := by decide +kernel
theorem dX13_kin_23 : decode cX13_kin 23 = .ok (.aload_n 0, 1) := by decide +kernel
theorem dX13_kin_24 : decode cX13_kin 24 = .ok (.getfield 125, 3) := by decide +kernel
theorem dX13_kin_27 : decode cX13_kin 27 = .ok (.iconst 2, 1) := by decide +kernel
theorem dX13_kin_28 : decode cX13_kin 28 = .ok (.iaload, 1) := by decide +kernel
theorem dX13_kin_29 : decode cX13_kin 29 = .ok (.if_icmp .ge 46, 3) := by decide +kernel
theorem dX13_kin_32 : decode cX13_kin 32 = .ok (.aload_n 0, 1) := by decide +kernel
theorem dX13_kin_33 : decode cX13_kin 33 = .ok (.getfield 125, 3) := by decide +kernel
theorem dX13_kin_36 : decode cX13_kin 36 = .ok (.bipush 27, 2) := by decide +kernel
theorem dX13_kin_38 : decode cX13_kin 38 = .ok (.iload_n 3, 1) := by decide +kernel
theorem dX13_kin_39 : decode cX13_kin 39 = .ok (.iadd, 1) := by decide +kernel
theorem dX13_kin_40 : decode cX13_kin 40 = .ok (.iaload, 1) := by decide +kernel
theorem dX13_kin_41 : decode cX13_kin 41 = .ok (.istore 4, 2) := by decide +kernel
theorem dX13_kin_43 : decode cX13_kin 43 = .ok (.iload_n 2, 1) := by decide +kernel
theorem dX13_kin_44 : decode cX13_kin 44 = .ok (.iload 4, 2) := by decide +kernel
theorem dX13_kin_46 : decode cX13_kin 46 = .ok (.iload_n 1, 1) := by decide +kernel
theorem dX13_kin_47 : decode cX13_kin 47 = .ok (.if_icmp .eq 13, 3) := by decide +kernel
theorem dX13_kin_50 : decode cX13_kin 50 = .ok (.iload_n 2, 1) := by decide +kernel
theorem dX13_kin_51 : decode cX13_kin 51 = .ok (.iload 4, 2) := by decide +kernel
theorem dX13_kin_53 : decode cX13_kin 53 = .ok (.ishr, 1) := by decide +kernel
theorem dX13_kin_54 : decode cX13_kin 54 = .ok (.iconst 1, 1) := by decide +kernel
theorem dX13_kin_55 : decode cX13_kin 55 = .ok (.iand, 1) := by decide +kernel
theorem dX13_kin_56 : decode cX13_kin 56 = .ok (.iconst 1, 1) := by decide +kernel
theorem dX13_kin_57 : decode cX13_kin 57 = .ok (.if_icmp .ne 9, 3) := by decide +kernel
theorem dX13_kin_60 : decode cX13_kin 60 = .ok (.iconst 1, 1) := by decide +kernel
theorem dX13_kin_61 : decode cX13_kin 61 = .ok (.iload_n 3, 1) := by decide +kernel
theorem dX13_kin_62 : decode cX13_kin 62 = .ok (.ishl, 1) := by decide +kernel
theorem dX13_kin_63 : decode cX13_kin 63 = .ok (.goto 4, 3) := by decide +kernel
theorem dX13_kin_66 : decode cX13_kin 66 = .ok (.iconst 0, 1) := by decide +kernel
theorem dX13_kin_67 : decode cX13_kin 67 = .ok (.ior, 1) := by decide +kernel
theorem dX13_kin_68 : decode cX13_kin 68 = .ok (.istore_n 2, 1) := by decide +kernel
theorem dX13_kin_69 : decode cX13_kin 69 = .ok (.iinc 3 1, 3) := by decide +kernel
theorem dX13_kin_72 : decode cX13_kin 72 = .ok (.goto (-50), 3) := by decide +kernel
theorem dX13_kin_75 : decode cX13_kin 75 = .ok (.iload_n 2, 1) := by decide +kernel
theorem dX13_kin_76 : decode cX13_kin 76 = .ok (.ireturn, 1) := by decide +kernel
set_option maxRecDepth 20000 in
theorem ggX13_nearest_X13_isPiece : GoodIn wsX13_nearest wsX13_isPiece := goodIn_r _ [7, 2, 15, 16, 17, 18, 19, 20, 21, 22, 23, 24, 25, 26, 27, 28, 29, 30, 31, 32, 33, 34, 35, 36, 37, 38, 39, 40, 41, 42, 43, 44, 45, 46, 47, 48, 49, 50, 51, 52, 53, 54, 55] (by decide +kernel) (by decide +kernel)
set_option maxRecDepth 20000 in
theorem gX13_nearest_X13_isPiece : GoodIn wsX13_nearest (wsV RX13 345 RX13 yX13_isPiece wsX13_isPiece) := goodIn_app (goodIn_of _ (by decide +kernel)) ggX13_nearest_X13_isPiece
set_option maxRecDepth 20000 in
theorem ggX13_nearest_X13_distanceOf : GoodIn wsX13_nearest wsX13_distanceOf := goodIn_r _ [11, 2, 12, 13, 6, 14, 15, 16, 17, 18, 19, 20, 21, 22, 23, 24, 25, 26, 27, 28, 29, 30, 31, 32, 33, 34, 35, 36, 37, 38, 39, 40, 41, 42, 43, 44, 45, 46, 47, 48, 49, 50, 51, 52, 53, 54, 55] (by decide +kernel) (by decide +kernel)
set_option maxRecDepth 20000 in
theorem gX13_nearest_X13_distanceOf : GoodIn wsX13_nearest (wsV RX13 352 RX13 yX13_distanceOf wsX13_distanceOf) := goodIn_app (goodIn_of _ (by decide +kernel)) ggX13_nearest_X13_distanceOf
theorem dX13_nearest_0 : decode cX13_nearest 0 = .ok (.aload_n 0, 1) := by decide +kernel
theorem dX13_nearest_1 : decode cX13_nearest 1 = .ok (.iconst 0, 1) := by decide +kernel
theorem dX13_nearest_2 : decode cX13_nearest 2 = .ok (.putfield 1, 3) := by decide +kernel
theorem dX13_nearest_5 : decode cX13_nearest 5 = .ok (.iconst (-1), 1) := by decide +kernel
theorem dX13_nearest_6 : decode cX13_nearest 6 = .ok (.istore_n 2, 1) := by decide +kernel
theorem dX13_nearest_7 : decode cX13_nearest 7 = .ok (.iconst 0, 1) := by decide +kernel
theorem dX13_nearest_8 : decode cX13_nearest 8 = .ok (.istore_n 3, 1) := by decide +kernel
theorem dX13_nearest_9 : decode cX13_nearest 9 = .ok (.iload_n 3, 1) := by decide +kernel
theorem dX13_nearest_10 : decode cX13_nearest 10 = .ok (.aload_n 0, 1) := by decide +kernel
theorem dX13_nearest_11 : decode cX13_nearest 11 = .ok (.getfield 125, 3) := by decide +kernel
theorem dX13_nearest_14 : decode cX13_nearest 14 = .ok (.iconst 2, 1) := by decide +kernel
theorem dX13_nearest_15 : decode cX13_nearest 15 = .ok (.iaload, 1) := by decide +kernel
theorem dX13_nearest_16 : decode cX13_nearest 16 = .ok (.if_icmp .ge 74, 3) := by decide +kernel
theorem dX13_nearest_19 : decode cX13_nearest 19 = .ok (.aload_n 0, 1) := by decide +kernel
theorem dX13_nearest_20 : decode cX13_nearest 20 = .ok (.iconst 0, 1) := by decide +kernel
theorem dX13_nearest_21 : decode cX13_nearest 21 = .ok (.iload_n 1, 1) := by decide +kernel
theorem dX13_nearest_22 : decode cX13_nearest 22 = .ok (.invokevirtual 345, 3) := by decide +kernel
theorem dX13_nearest_25 : decode cX13_nearest 25 = .ok (.ifCond .eq 65, 3) := by decide +kernel
theorem dX13_nearest_28 : decode cX13_nearest 28 = .ok (.iload_n 3, 1) := by decide +kernel
theorem dX13_nearest_29 : decode cX13_nearest 29 = .ok (.iload_n 1, 1) := by decide +kernel
theorem dX13_nearest_30 : decode cX13_nearest 30 = .ok (.if_icmp .eq 21, 3) := by decide +kernel
theorem dX13_nearest_33 : decode cX13_nearest 33 = .ok (.aload_n 0, 1) := by decide +kernel
theorem dX13_nearest_34 : decode cX13_nearest 34 = .ok (.getfield 125, 3) := by decide +kernel
theorem dX13_nearest_37 : decode cX13_nearest 37 = .ok (.bipush 11, 2) := by decide +kernel
theorem dX13_nearest_39 : decode cX13_nearest 39 = .ok (.iload_n 3, 1) := by decide +kernel
theorem dX13_nearest_40 : decode cX13_nearest 40 = .ok (.iadd, 1) := by decide +kernel
theorem dX13_nearest_41 : decode cX13_nearest 41 = .ok (.iaload, 1) := by decide +kernel
theorem dX13_nearest_42 : decode cX13_nearest 42 = .ok (.bipush 6, 2) := by decide +kernel
theorem dX13_nearest_44 : decode cX13_nearest 44 = .ok (.if_icmp .eq 7, 3) := by decide +kernel
theorem dX13_nearest_47 : decode cX13_nearest 47 = .ok (.iconst 1, 1) := by decide +kernel
theorem dX13_nearest_48 : decode cX13_nearest 48 = .ok (.goto 4, 3) := by decide +kernel
theorem dX13_nearest_51 : decode cX13_nearest 51 = .ok (.iconst 0, 1) := by decide +kernel
theorem dX13_nearest_52 : decode cX13_nearest 52 = .ok (.istore 4, 2) := by decide +kernel
theorem dX13_nearest_54 : decode cX13_nearest 54 = .ok (.iload 4, 2) := by decide +kernel
theorem dX13_nearest_56 : decode cX13_nearest 56 = .ok (.ifCond .eq 26, 3) := by decide +kernel
theorem dX13_nearest_59 : decode cX13_nearest 59 = .ok (.iload_n 2, 1) := by decide +kernel
theorem dX13_nearest_60 : decode cX13_nearest 60 = .ok (.ifCond .lt 18, 3) := by decide +kernel
theorem dX13_nearest_63 : decode cX13_nearest 63 = .ok (.aload_n 0, 1) := by decide +kernel
theorem dX13_nearest_64 : decode cX13_nearest 64 = .ok (.iload_n 1, 1) := by decide +kernel
theorem dX13_nearest_65 : decode cX13_nearest 65 = .ok (.iload_n 3, 1) := by decide +kernel
theorem dX13_nearest_66 : decode cX13_nearest 66 = .ok (.invokevirtual 352, 3) := by decide +kernel
theorem dX13_nearest_69 : decode cX13_nearest 69 = .ok (.aload_n 0, 1) := by decide +kernel
theorem dX13_nearest_70 : decode cX13_nearest 70 = .ok (.iload_n 1, 1) := by decide +kernel
theorem dX13_nearest_71 : decode cX13_nearest 71 = .ok (.iload_n 2, 1) := by decide +kernel
theorem dX13_nearest_72 : decode cX13_nearest 72 = .ok (.invokevirtual 352, 3) := by decide +kernel
theorem dX13_nearest_75 : decode cX13_nearest 75 = .ok (.if_icmp .ge 7, 3) := by decide +kernel
theorem dX13_nearest_78 : decode cX13_nearest 78 = .ok (.iload_n 3, 1) := by decide +kernel
theorem dX13_nearest_79 : decode cX13_nearest 79 = .ok (.goto 4, 3) := by decide +kernel
theorem dX13_nearest_82 : decode cX13_nearest 82 = .ok (.iload_n 2, 1) := by decide +kernel
theorem dX13_nearest_83 : decode cX13_nearest 83 = .ok (.istore_n 2, 1) := by decide +kernel
theorem dX13_nearest_84 : decode cX13_nearest 84 = .ok (.iinc 3 1, 3) := by decide +kernel
theorem dX13_nearest_87 : decode cX13_nearest 87 = .ok (.goto (-78), 3) := by decide +kernel
theorem dX13_nearest_90 : decode cX13_nearest 90 = .ok (.iload_n 2, 1) := by decide +kernel
theorem dX13_nearest_91 : decode cX13_nearest 91 = .ok (.ireturn, 1) := by decide +kernel
set_option maxRecDepth 20000 in
theorem ggX13_meet_X13_isThief : GoodIn wsX13_meet wsX13_isThief := goodIn_r _ [7, 8, 9, 10, 6, 11, 12, 17, 18, 19, 20, 21, 22, 23, 24, 25, 26, 27, 28, 29, 30, 31, 32, 33, 34, 35, 36, 37, 38, 39, 40, 41, 42, 43, 44, 45, 46, 47, 48, 49, 50, 51, 52, 53, 54, 55, 56, 57] (by decide +kernel) (by decide +kernel)
set_option maxRecDepth 20000 in
theorem gX13_meet_X13_isThief : GoodIn wsX13_meet (wsV RX13 355 RX13 yX13_isThief wsX13_isThief) := goodIn_app (goodIn_of _ (by decide +kernel)) ggX13_meet_X13_isThief
set_option maxRecDepth 20000 in
theorem ggX13_meet_X13_thieves : GoodIn wsX13_meet wsX13_thieves := goodIn_r _ [11, 12, 17, 18, 19, 20, 21, 22, 23, 24, 25, 26, 27, 28, 29, 30, 31, 32, 33, 34, 35, 36, 37, 38, 39, 40, 41, 42, 43, 44, 45, 46, 47, 48, 49, 50, 51, 52, 53, 54, 55, 56, 57] (by decide +kernel) (by decide +kernel)
set_option maxRecDepth 20000 in
theorem gX13_meet_X13_thieves : GoodIn wsX13_meet (wsV RX13 320 RX13 yX13_thieves wsX13_thieves) := goodIn_app (goodIn_of _ (by decide +kernel)) ggX13_meet_X13_thieves
set_option maxRecDepth 20000 in
theorem ggX13_meet_X13_thiefOf : GoodIn wsX13_meet wsX13_thiefOf := goodIn_r _ [16, 12, 17, 18, 19, 20, 21, 22, 23, 24, 25, 26, 27, 28, 29, 30, 31, 32, 33, 34, 35, 36, 37, 38, 39, 40, 41, 42, 43, 44, 45, 46, 47, 48, 49, 50, 51, 52, 53, 54, 55, 56, 57] (by decide +kernel) (by decide +kernel)
set_option maxRecDepth 20000 in
theorem gX13_meet_X13_thiefOf : GoodIn wsX13_meet (wsV RX13 323 RX13 yX13_thiefOf wsX13_thiefOf) := goodIn_app (goodIn_of _ (by decide +kernel)) ggX13_meet_X13_thiefOf
theorem dX13_meet_0 : decode cX13_meet 0 = .ok (.aload_n 0, 1) := by decide +kernel
theorem dX13_meet_1 : decode cX13_meet 1 = .ok (.iconst 0, 1) := by decide +kernel
theorem dX13_meet_2 : decode cX13_meet 2 = .ok (.putfield 1, 3) := by decide +kernel
theorem dX13_meet_5 : decode cX13_meet 5 = .ok (.aload_n 0, 1) := by decide +kernel
theorem dX13_meet_6 : decode cX13_meet 6 = .ok (.iload_n 1, 1) := by decide +kernel
theorem dX13_meet_7 : decode cX13_meet 7 = .ok (.invokevirtual 355, 3) := by decide +kernel
theorem dX13_meet_10 : decode cX13_meet 10 = .ok (.ifCond .ne 5, 3) := by decide +kernel
theorem dX13_meet_13 : decode cX13_meet 13 = .ok (.iconst (-1), 1) := by decide +kernel
theorem dX13_meet_14 : decode cX13_meet 14 = .ok (.ireturn, 1) := by decide +kernel
theorem dX13_meet_15 : decode cX13_meet 15 = .ok (.iconst 0, 1) := by decide +kernel
theorem dX13_meet_16 : decode cX13_meet 16 = .ok (.istore_n 2, 1) := by decide +kernel
theorem dX13_meet_17 : decode cX13_meet 17 = .ok (.iconst 0, 1) := by decide +kernel
theorem dX13_meet_18 : decode cX13_meet 18 = .ok (.istore_n 3, 1) := by decide +kernel
theorem dX13_meet_19 : decode cX13_meet 19 = .ok (.iload_n 3, 1) := by decide +kernel
theorem dX13_meet_20 : decode cX13_meet 20 = .ok (.aload_n 0, 1) := by decide +kernel
theorem dX13_meet_21 : decode cX13_meet 21 = .ok (.invokevirtual 320, 3) := by decide +kernel
theorem dX13_meet_24 : decode cX13_meet 24 = .ok (.if_icmp .ge 61, 3) := by decide +kernel
theorem dX13_meet_27 : decode cX13_meet 27 = .ok (.iload_n 3, 1) := by decide +kernel
theorem dX13_meet_28 : decode cX13_meet 28 = .ok (.iload_n 1, 1) := by decide +kernel
theorem dX13_meet_29 : decode cX13_meet 29 = .ok (.if_icmp .eq 32, 3) := by decide +kernel
theorem dX13_meet_32 : decode cX13_meet 32 = .ok (.aload_n 0, 1) := by decide +kernel
theorem dX13_meet_33 : decode cX13_meet 33 = .ok (.iload_n 1, 1) := by decide +kernel
theorem dX13_meet_34 : decode cX13_meet 34 = .ok (.iconst 3, 1) := by decide +kernel
theorem dX13_meet_35 : decode cX13_meet 35 = .ok (.invokevirtual 323, 3) := by decide +kernel
theorem dX13_meet_38 : decode cX13_meet 38 = .ok (.aload_n 0, 1) := by decide +kernel
theorem dX13_meet_39 : decode cX13_meet 39 = .ok (.iload_n 3, 1) := by decide +kernel
theorem dX13_meet_40 : decode cX13_meet 40 = .ok (.iconst 3, 1) := by decide +kernel
theorem dX13_meet_41 : decode cX13_meet 41 = .ok (.invokevirtual 323, 3) := by decide +kernel
theorem dX13_meet_44 : decode cX13_meet 44 = .ok (.iand, 1) := by decide +kernel
theorem dX13_meet_45 : decode cX13_meet 45 = .ok (.aload_n 0, 1) := by decide +kernel
theorem dX13_meet_46 : decode cX13_meet 46 = .ok (.getfield 125, 3) := by decide +kernel
theorem dX13_meet_49 : decode cX13_meet 49 = .ok (.iconst 1, 1) := by decide +kernel
theorem dX13_meet_50 : decode cX13_meet 50 = .ok (.iaload, 1) := by decide +kernel
theorem dX13_meet_51 : decode cX13_meet 51 = .ok (.iconst (-1), 1) := by decide +kernel
theorem dX13_meet_52 : decode cX13_meet 52 = .ok (.ixor, 1) := by decide +kernel
theorem dX13_meet_53 : decode cX13_meet 53 = .ok (.iand, 1) := by decide +kernel
theorem dX13_meet_54 : decode cX13_meet 54 = .ok (.ifCond .eq 7, 3) := by decide +kernel
theorem dX13_meet_57 : decode cX13_meet 57 = .ok (.iconst 1, 1) := by decide +kernel
theorem dX13_meet_58 : decode cX13_meet 58 = .ok (.goto 4, 3) := by decide +kernel
theorem dX13_meet_61 : decode cX13_meet 61 = .ok (.iconst 0, 1) := by decide +kernel
theorem dX13_meet_62 : decode cX13_meet 62 = .ok (.istore 4, 2) := by decide +kernel
theorem dX13_meet_64 : decode cX13_meet 64 = .ok (.iload_n 2, 1) := by decide +kernel
theorem dX13_meet_65 : decode cX13_meet 65 = .ok (.iload 4, 2) := by decide +kernel
theorem dX13_meet_67 : decode cX13_meet 67 = .ok (.ifCond .eq 9, 3) := by decide +kernel
theorem dX13_meet_70 : decode cX13_meet 70 = .ok (.iconst 1, 1) := by decide +kernel
theorem dX13_meet_71 : decode cX13_meet 71 = .ok (.iload_n 3, 1) := by decide +kernel
theorem dX13_meet_72 : decode cX13_meet 72 = .ok (.ishl, 1) := by decide +kernel
theorem dX13_meet_73 : decode cX13_meet 73 = .ok (.goto 4, 3) := by decide +kernel
theorem dX13_meet_76 : decode cX13_meet 76 = .ok (.iconst 0, 1) := by decide +kernel
theorem dX13_meet_77 : decode cX13_meet 77 = .ok (.ior, 1) := by decide +kernel
theorem dX13_meet_78 : decode cX13_meet 78 = .ok (.istore_n 2, 1) := by decide +kernel
theorem dX13_meet_79 : decode cX13_meet 79 = .ok (.iinc 3 1, 3) := by decide +kernel
theorem dX13_meet_82 : decode cX13_meet 82 = .ok (.goto (-63), 3) := by decide +kernel
theorem dX13_meet_85 : decode cX13_meet 85 = .ok (.iload_n 2, 1) := by decide +kernel
theorem dX13_meet_86 : decode cX13_meet 86 = .ok (.ireturn, 1) := by decide +kernel
set_option maxRecDepth 20000 in
theorem ggX13_joined_X13_isPiece : GoodIn wsX13_joined wsX13_isPiece := goodIn_r _ [7, 2, 11, 12, 13, 14, 15, 16, 17, 18, 19, 20, 21, 22, 23, 24, 25, 26, 27, 28, 29, 30, 31, 32, 33, 34, 35, 36, 37, 38, 39, 40, 41, 42, 43, 44, 45, 46, 47, 48, 49, 50, 51] (by decide +kernel) (by decide +kernel)
set_option maxRecDepth 20000 in
theorem gX13_joined_X13_isPiece : GoodIn wsX13_joined (wsV RX13 345 RX13 yX13_isPiece wsX13_isPiece) := goodIn_app (goodIn_of _ (by decide +kernel)) ggX13_joined_X13_isPiece
set_option maxRecDepth 20000 in
theorem ggX13_joined_X13_within : GoodIn wsX13_joined wsX13_within := goodIn_r _ [10] (by decide +kernel) (by decide +kernel)
set_option maxRecDepth 20000 in
theorem gX13_joined_X13_within : GoodIn wsX13_joined (va_wsS RX13 231 yX13_within wsX13_within) := goodIn_app (goodIn_of _ (by decide +kernel)) ggX13_joined_X13_within
theorem dX13_joined_0 : decode cX13_joined 0 = .ok (.aload_n 0, 1) := by decide +kernel
theorem dX13_joined_1 : decode cX13_joined 1 = .ok (.iconst 0, 1) := by decide +kernel
theorem dX13_joined_2 : decode cX13_joined 2 = .ok (.putfield 1, 3) := by decide +kernel
theorem dX13_joined_5 : decode cX13_joined 5 = .ok (.aload_n 0, 1) := by decide +kernel
theorem dX13_joined_6 : decode cX13_joined 6 = .ok (.iconst 0, 1) := by decide +kernel
theorem dX13_joined_7 : decode cX13_joined 7 = .ok (.iload_n 1, 1) := by decide +kernel
theorem dX13_joined_8 : decode cX13_joined 8 = .ok (.invokevirtual 345, 3) := by decide +kernel
theorem dX13_joined_11 : decode cX13_joined 11 = .ok (.ifCond .eq 12, 3) := by decide +kernel
theorem dX13_joined_14 : decode cX13_joined 14 = .ok (.iload_n 2, 1) := by decide +kernel
theorem dX13_joined_15 : decode cX13_joined 15 = .ok (.iconst 0, 1) := by decide +kernel
theorem dX13_joined_16 : decode cX13_joined 16 = .ok (.iconst 1, 1) := by decide +kernel
theorem dX13_joined_17 : decode cX13_joined 17 = .ok (.invokestatic 231, 3) := by decide +kernel
theorem dX13_joined_20 : decode cX13_joined 20 = .ok (.ifCond .ne 6, 3) := by decide +kernel
theorem dX13_joined_23 : decode cX13_joined 23 = .ok (.bipush (-2), 2) := by decide +kernel
theorem dX13_joined_25 : decode cX13_joined 25 = .ok (.ireturn, 1) := by decide +kernel
theorem dX13_joined_26 : decode cX13_joined 26 = .ok (.iconst 0, 1) := by decide +kernel
theorem dX13_joined_27 : decode cX13_joined 27 = .ok (.istore_n 3, 1) := by decide +kernel
theorem dX13_joined_28 : decode cX13_joined 28 = .ok (.iconst (-1), 1) := by decide +kernel
theorem dX13_joined_29 : decode cX13_joined 29 = .ok (.istore 4, 2) := by decide +kernel
theorem dX13_joined_31 : decode cX13_joined 31 = .ok (.iconst 0, 1) := by decide +kernel
theorem dX13_joined_32 : decode cX13_joined 32 = .ok (.istore 5, 2) := by decide +kernel
theorem dX13_joined_34 : decode cX13_joined 34 = .ok (.iload 5, 2) := by decide +kernel
theorem dX13_joined_36 : decode cX13_joined 36 = .ok (.aload_n 0, 1) := by decide +kernel
theorem dX13_joined_37 : decode cX13_joined 37 = .ok (.getfield 125, 3) := by decide +kernel
theorem dX13_joined_40 : decode cX13_joined 40 = .ok (.iconst 2, 1) := by decide +kernel
theorem dX13_joined_41 : decode cX13_joined 41 = .ok (.iaload, 1) := by decide +kernel
theorem dX13_joined_42 : decode cX13_joined 42 = .ok (.if_icmp .ge 110, 3) := by decide +kernel
theorem dX13_joined_45 : decode cX13_joined 45 = .ok (.iload 5, 2) := by decide +kernel
theorem dX13_joined_47 : decode cX13_joined 47 = .ok (.iconst 1, 1) := by decide +kernel
theorem dX13_joined_48 : decode cX13_joined 48 = .ok (.iadd, 1) := by decide +kernel
theorem dX13_joined_49 : decode cX13_joined 49 = .ok (.istore 6, 2) := by decide +kernel
theorem dX13_joined_51 : decode cX13_joined 51 = .ok (.iload 6, 2) := by decide +kernel
theorem dX13_joined_53 : decode cX13_joined 53 = .ok (.aload_n 0, 1) := by decide +kernel
theorem dX13_joined_54 : decode cX13_joined 54 = .ok (.getfield 125, 3) := by decide +kernel
theorem dX13_joined_57 : decode cX13_joined 57 = .ok (.iconst 2, 1) := by decide +kernel
theorem dX13_joined_58 : decode cX13_joined 58 = .ok (.iaload, 1) := by decide +kernel
theorem dX13_joined_59 : decode cX13_joined 59 = .ok (.if_icmp .ge 87, 3) := by decide +kernel
theorem dX13_joined_62 : decode cX13_joined 62 = .ok (.aload_n 0, 1) := by decide +kernel
theorem dX13_joined_63 : decode cX13_joined 63 = .ok (.getfield 125, 3) := by decide +kernel
theorem dX13_joined_66 : decode cX13_joined 66 = .ok (.iconst 3, 1) := by decide +kernel
theorem dX13_joined_67 : decode cX13_joined 67 = .ok (.iload_n 1, 1) := by decide +kernel
theorem dX13_joined_68 : decode cX13_joined 68 = .ok (.iadd, 1) := by decide +kernel
theorem dX13_joined_69 : decode cX13_joined 69 = .ok (.iaload, 1) := by decide +kernel
theorem dX13_joined_70 : decode cX13_joined 70 = .ok (.aload_n 0, 1) := by decide +kernel
theorem dX13_joined_71 : decode cX13_joined 71 = .ok (.getfield 125, 3) := by decide +kernel
theorem dX13_joined_74 : decode cX13_joined 74 = .ok (.iconst 3, 1) := by decide +kernel
theorem dX13_joined_75 : decode cX13_joined 75 = .ok (.iload 5, 2) := by decide +kernel
theorem dX13_joined_77 : decode cX13_joined 77 = .ok (.iadd, 1) := by decide +kernel
theorem dX13_joined_78 : decode cX13_joined 78 = .ok (.iaload, 1) := by decide +kernel
theorem dX13_joined_79 : decode cX13_joined 79 = .ok (.ixor, 1) := by decide +kernel
theorem dX13_joined_80 : decode cX13_joined 80 = .ok (.aload_n 0, 1) := by decide +kernel
theorem dX13_joined_81 : decode cX13_joined 81 = .ok (.getfield 125, 3) := by decide +kernel
theorem dX13_joined_84 : decode cX13_joined 84 = .ok (.iconst 3, 1) := by decide +kernel
theorem dX13_joined_85 : decode cX13_joined 85 = .ok (.iload_n 1, 1) := by decide +kernel
theorem dX13_joined_86 : decode cX13_joined 86 = .ok (.iadd, 1) := by decide +kernel
theorem dX13_joined_87 : decode cX13_joined 87 = .ok (.iaload, 1) := by decide +kernel
theorem dX13_joined_88 : decode cX13_joined 88 = .ok (.aload_n 0, 1) := by decide +kernel
theorem dX13_joined_89 : decode cX13_joined 89 = .ok (.getfield 125, 3) := by decide +kernel
theorem dX13_joined_92 : decode cX13_joined 92 = .ok (.iconst 3, 1) := by decide +kernel
theorem dX13_joined_93 : decode cX13_joined 93 = .ok (.iload 6, 2) := by decide +kernel
theorem dX13_joined_95 : decode cX13_joined 95 = .ok (.iadd, 1) := by decide +kernel
theorem dX13_joined_96 : decode cX13_joined 96 = .ok (.iaload, 1) := by decide +kernel
theorem dX13_joined_97 : decode cX13_joined 97 = .ok (.ixor, 1) := by decide +kernel
theorem dX13_joined_98 : decode cX13_joined 98 = .ok (.iand, 1) := by decide +kernel
theorem dX13_joined_99 : decode cX13_joined 99 = .ok (.istore 7, 2) := by decide +kernel
theorem dX13_joined_101 : decode cX13_joined 101 = .ok (.iload 5, 2) := by decide +kernel
theorem dX13_joined_103 : decode cX13_joined 103 = .ok (.iload_n 1, 1) := by decide +kernel
theorem dX13_joined_104 : decode cX13_joined 104 = .ok (.if_icmp .eq 36, 3) := by decide +kernel
theorem dX13_joined_107 : decode cX13_joined 107 = .ok (.iload 6, 2) := by decide +kernel
theorem dX13_joined_109 : decode cX13_joined 109 = .ok (.iload_n 1, 1) := by decide +kernel
theorem dX13_joined_110 : decode cX13_joined 110 = .ok (.if_icmp .eq 30, 3) := by decide +kernel
theorem dX13_joined_113 : decode cX13_joined 113 = .ok (.iload 7, 2) := by decide +kernel
theorem dX13_joined_115 : decode cX13_joined 115 = .ok (.ifCond .ne 25, 3) := by decide +kernel
theorem dX13_joined_118 : decode cX13_joined 118 = .ok (.iload_n 3, 1) := by decide +kernel
theorem dX13_joined_119 : decode cX13_joined 119 = .ok (.ifCond .ne 14, 3) := by decide +kernel
theorem dX13_joined_122 : decode cX13_joined 122 = .ok (.bipush 8, 2) := by decide +kernel
theorem dX13_joined_124 : decode cX13_joined 124 = .ok (.iload 5, 2) := by decide +kernel
theorem dX13_joined_126 : decode cX13_joined 126 = .ok (.imul, 1) := by decide +kernel
theorem dX13_joined_127 : decode cX13_joined 127 = .ok (.iload 6, 2) := by decide +kernel
theorem dX13_joined_129 : decode cX13_joined 129 = .ok (.iadd, 1) := by decide +kernel
theorem dX13_joined_130 : decode cX13_joined 130 = .ok (.goto 5, 3) := by decide +kernel
theorem dX13_joined_133 : decode cX13_joined 133 = .ok (.iload 4, 2) := by decide +kernel
theorem dX13_joined_135 : decode cX13_joined 135 = .ok (.istore 4, 2) := by decide +kernel
theorem dX13_joined_137 : decode cX13_joined 137 = .ok (.iinc 3 1, 3) := by decide +kernel
theorem dX13_joined_140 : decode cX13_joined 140 = .ok (.iinc 6 1, 3) := by decide +kernel
theorem dX13_joined_143 : decode cX13_joined 143 = .ok (.goto (-92), 3) := by decide +kernel
theorem dX13_joined_146 : decode cX13_joined 146 = .ok (.iinc 5 1, 3) := by decide +kernel
theorem dX13_joined_149 : decode cX13_joined 149 = .ok (.goto (-115), 3) := by decide +kernel
theorem dX13_joined_152 : decode cX13_joined 152 = .ok (.iload_n 2, 1) := by decide +kernel
theorem dX13_joined_153 : decode cX13_joined 153 = .ok (.ifCond .ne 7, 3) := by decide +kernel
theorem dX13_joined_156 : decode cX13_joined 156 = .ok (.iload_n 3, 1) := by decide +kernel
theorem dX13_joined_157 : decode cX13_joined 157 = .ok (.goto 5, 3) := by decide +kernel
theorem dX13_joined_160 : decode cX13_joined 160 = .ok (.iload 4, 2) := by decide +kernel
theorem dX13_joined_162 : decode cX13_joined 162 = .ok (.ireturn, 1) := by decide +kernel
set_option maxRecDepth 20000 in
theorem ggX13_look_X13_isSpot : GoodIn wsX13_look wsX13_isSpot := goodIn_r _ [7, 8, 9, 10, 6, 11, 12, 13, 14, 15, 16, 17, 18, 19, 20, 21, 22, 23, 24, 25, 26, 27, 28, 29, 30, 31, 32, 33, 34, 35, 36, 37, 38, 39, 40, 41, 42, 43, 44, 45, 46, 47, 48, 49, 50, 51, 52, 53] (by decide +kernel) (by decide +kernel)
set_option maxRecDepth 20000 in
theorem gX13_look_X13_isSpot : GoodIn wsX13_look (wsV RX13 379 RX13 yX13_isSpot wsX13_isSpot) := goodIn_app (goodIn_of _ (by decide +kernel)) ggX13_look_X13_isSpot
theorem dX13_look_0 : decode cX13_look 0 = .ok (.aload_n 0, 1) := by decide +kernel
theorem dX13_look_1 : decode cX13_look 1 = .ok (.iconst 0, 1) := by decide +kernel
theorem dX13_look_2 : decode cX13_look 2 = .ok (.putfield 1, 3) := by decide +kernel
theorem dX13_look_5 : decode cX13_look 5 = .ok (.aload_n 0, 1) := by decide +kernel
theorem dX13_look_6 : decode cX13_look 6 = .ok (.iload_n 1, 1) := by decide +kernel
theorem dX13_look_7 : decode cX13_look 7 = .ok (.invokevirtual 379, 3) := by decide +kernel
theorem dX13_look_10 : decode cX13_look 10 = .ok (.ifCond .eq 15, 3) := by decide +kernel
theorem dX13_look_13 : decode cX13_look 13 = .ok (.aload_n 0, 1) := by decide +kernel
theorem dX13_look_14 : decode cX13_look 14 = .ok (.getfield 125, 3) := by decide +kernel
theorem dX13_look_17 : decode cX13_look 17 = .ok (.bipush 48, 2) := by decide +kernel
theorem dX13_look_19 : decode cX13_look 19 = .ok (.iaload, 1) := by decide +kernel
theorem dX13_look_20 : decode cX13_look 20 = .ok (.bipush 8, 2) := by decide +kernel
theorem dX13_look_22 : decode cX13_look 22 = .ok (.if_icmp .ne 5, 3) := by decide +kernel
theorem dX13_look_25 : decode cX13_look 25 = .ok (.iconst 0, 1) := by decide +kernel
theorem dX13_look_26 : decode cX13_look 26 = .ok (.ireturn, 1) := by decide +kernel
theorem dX13_look_27 : decode cX13_look 27 = .ok (.aload_n 0, 1) := by decide +kernel
theorem dX13_look_28 : decode cX13_look 28 = .ok (.getfield 125, 3) := by decide +kernel
theorem dX13_look_31 : decode cX13_look 31 = .ok (.bipush 49, 2) := by decide +kernel
theorem dX13_look_33 : decode cX13_look 33 = .ok (.iconst 2, 1) := by decide +kernel
theorem dX13_look_34 : decode cX13_look 34 = .ok (.aload_n 0, 1) := by decide +kernel
theorem dX13_look_35 : decode cX13_look 35 = .ok (.getfield 125, 3) := by decide +kernel
theorem dX13_look_38 : decode cX13_look 38 = .ok (.bipush 48, 2) := by decide +kernel
theorem dX13_look_40 : decode cX13_look 40 = .ok (.iaload, 1) := by decide +kernel
theorem dX13_look_41 : decode cX13_look 41 = .ok (.imul, 1) := by decide +kernel
theorem dX13_look_42 : decode cX13_look 42 = .ok (.iadd, 1) := by decide +kernel
theorem dX13_look_43 : decode cX13_look 43 = .ok (.iload_n 1, 1) := by decide +kernel
theorem dX13_look_44 : decode cX13_look 44 = .ok (.iastore, 1) := by decide +kernel
theorem dX13_look_45 : decode cX13_look 45 = .ok (.aload_n 0, 1) := by decide +kernel
theorem dX13_look_46 : decode cX13_look 46 = .ok (.getfield 125, 3) := by decide +kernel
theorem dX13_look_49 : decode cX13_look 49 = .ok (.bipush 49, 2) := by decide +kernel
theorem dX13_look_51 : decode cX13_look 51 = .ok (.iconst 2, 1) := by decide +kernel
theorem dX13_look_52 : decode cX13_look 52 = .ok (.aload_n 0, 1) := by decide +kernel
theorem dX13_look_53 : decode cX13_look 53 = .ok (.getfield 125, 3) := by decide +kernel
theorem dX13_look_56 : decode cX13_look 56 = .ok (.bipush 48, 2) := by decide +kernel
theorem dX13_look_58 : decode cX13_look 58 = .ok (.iaload, 1) := by decide +kernel
theorem dX13_look_59 : decode cX13_look 59 = .ok (.imul, 1) := by decide +kernel
theorem dX13_look_60 : decode cX13_look 60 = .ok (.iadd, 1) := by decide +kernel
theorem dX13_look_61 : decode cX13_look 61 = .ok (.iconst 1, 1) := by decide +kernel
theorem dX13_look_62 : decode cX13_look 62 = .ok (.iadd, 1) := by decide +kernel
theorem dX13_look_63 : decode cX13_look 63 = .ok (.iload_n 2, 1) := by decide +kernel
theorem dX13_look_64 : decode cX13_look 64 = .ok (.ifCond .eq 7, 3) := by decide +kernel
theorem dX13_look_67 : decode cX13_look 67 = .ok (.iconst 1, 1) := by decide +kernel
theorem dX13_look_68 : decode cX13_look 68 = .ok (.goto 4, 3) := by decide +kernel
theorem dX13_look_71 : decode cX13_look 71 = .ok (.iconst 0, 1) := by decide +kernel
theorem dX13_look_72 : decode cX13_look 72 = .ok (.iastore, 1) := by decide +kernel
theorem dX13_look_73 : decode cX13_look 73 = .ok (.aload_n 0, 1) := by decide +kernel
theorem dX13_look_74 : decode cX13_look 74 = .ok (.getfield 125, 3) := by decide +kernel
theorem dX13_look_77 : decode cX13_look 77 = .ok (.bipush 48, 2) := by decide +kernel
theorem dX13_look_79 : decode cX13_look 79 = .ok (.dup2, 1) := by decide +kernel
theorem dX13_look_80 : decode cX13_look 80 = .ok (.iaload, 1) := by decide +kernel
theorem dX13_look_81 : decode cX13_look 81 = .ok (.iconst 1, 1) := by decide +kernel
theorem dX13_look_82 : decode cX13_look 82 = .ok (.iadd, 1) := by decide +kernel
theorem dX13_look_83 : decode cX13_look 83 = .ok (.iastore, 1) := by decide +kernel
theorem dX13_look_84 : decode cX13_look 84 = .ok (.iconst 1, 1) := by decide +kernel
theorem dX13_look_85 : decode cX13_look 85 = .ok (.ireturn, 1) := by decide +kernel
theorem dX13_fitting_0 : decode cX13_fitting 0 = .ok (.iconst 0, 1) := by decide +kernel
theorem dX13_fitting_1 : decode cX13_fitting 1 = .ok (.istore_n 1, 1) := by decide +kernel
theorem dX13_fitting_2 : decode cX13_fitting 2 = .ok (.iconst 0, 1) := by decide +kernel
theorem dX13_fitting_3 : decode cX13_fitting 3 = .ok (.istore_n 2, 1) := by decide +kernel
theorem dX13_fitting_4 : decode cX13_fitting 4 = .ok (.iload_n 2, 1) := by decide +kernel
theorem dX13_fitting_5 : decode cX13_fitting 5 = .ok (.aload_n 0, 1) := by decide +kernel
theorem dX13_fitting_6 : decode cX13_fitting 6 = .ok (.getfield 125, 3) := by decide +kernel
theorem dX13_fitting_9 : decode cX13_fitting 9 = .ok (.iconst 2, 1) := by decide +kernel
theorem dX13_fitting_10 : decode cX13_fitting 10 = .ok (.iaload, 1) := by decide +kernel
theorem dX13_fitting_11 : decode cX13_fitting 11 = .ok (.if_icmp .ge 114, 3) := by decide +kernel
theorem dX13_fitting_14 : decode cX13_fitting 14 = .ok (.aload_n 0, 1) := by decide +kernel
theorem dX13_fitting_15 : decode cX13_fitting 15 = .ok (.getfield 125, 3) := by decide +kernel
theorem dX13_fitting_18 : decode cX13_fitting 18 = .ok (.bipush 11, 2) := by decide +kernel
theorem dX13_fitting_20 : decode cX13_fitting 20 = .ok (.iload_n 2, 1) := by decide +kernel
theorem dX13_fitting_21 : decode cX13_fitting 21 = .ok (.iadd, 1) := by decide +kernel
theorem dX13_fitting_22 : decode cX13_fitting 22 = .ok (.iaload, 1) := by decide +kernel
theorem dX13_fitting_23 : decode cX13_fitting 23 = .ok (.bipush 6, 2) := by decide +kernel
theorem dX13_fitting_25 : decode cX13_fitting 25 = .ok (.if_icmp .eq 7, 3) := by decide +kernel
theorem dX13_fitting_28 : decode cX13_fitting 28 = .ok (.iconst 1, 1) := by decide +kernel
theorem dX13_fitting_29 : decode cX13_fitting 29 = .ok (.goto 4, 3) := by decide +kernel
theorem dX13_fitting_32 : decode cX13_fitting 32 = .ok (.iconst 0, 1) := by decide +kernel
theorem dX13_fitting_33 : decode cX13_fitting 33 = .ok (.istore_n 3, 1) := by decide +kernel
theorem dX13_fitting_34 : decode cX13_fitting 34 = .ok (.iconst 0, 1) := by decide +kernel
theorem dX13_fitting_35 : decode cX13_fitting 35 = .ok (.istore 4, 2) := by decide +kernel
theorem dX13_fitting_37 : decode cX13_fitting 37 = .ok (.iload 4, 2) := by decide +kernel
theorem dX13_fitting_39 : decode cX13_fitting 39 = .ok (.aload_n 0, 1) := by decide +kernel
theorem dX13_fitting_40 : decode cX13_fitting 40 = .ok (.getfield 125, 3) := by decide +kernel
theorem dX13_fitting_43 : decode cX13_fitting 43 = .ok (.bipush 48, 2) := by decide +kernel
theorem dX13_fitting_45 : decode cX13_fitting 45 = .ok (.iaload, 1) := by decide +kernel
theorem dX13_fitting_46 : decode cX13_fitting 46 = .ok (.if_icmp .ge 59, 3) := by decide +kernel
theorem dX13_fitting_49 : decode cX13_fitting 49 = .ok (.iload_n 3, 1) := by decide +kernel
theorem dX13_fitting_50 : decode cX13_fitting 50 = .ok (.ifCond .eq 47, 3) := by decide +kernel
theorem dX13_fitting_53 : decode cX13_fitting 53 = .ok (.aload_n 0, 1) := by decide +kernel
theorem dX13_fitting_54 : decode cX13_fitting 54 = .ok (.getfield 125, 3) := by decide +kernel
theorem dX13_fitting_57 : decode cX13_fitting 57 = .ok (.iconst 3, 1) := by decide +kernel
theorem dX13_fitting_58 : decode cX13_fitting 58 = .ok (.iload_n 2, 1) := by decide +kernel
theorem dX13_fitting_59 : decode cX13_fitting 59 = .ok (.iadd, 1) := by decide +kernel
theorem dX13_fitting_60 : decode cX13_fitting 60 = .ok (.iaload, 1) := by decide +kernel
theorem dX13_fitting_61 : decode cX13_fitting 61 = .ok (.aload_n 0, 1) := by decide +kernel
theorem dX13_fitting_62 : decode cX13_fitting 62 = .ok (.getfield 125, 3) := by decide +kernel
theorem dX13_fitting_65 : decode cX13_fitting 65 = .ok (.bipush 49, 2) := by decide +kernel
theorem dX13_fitting_67 : decode cX13_fitting 67 = .ok (.iconst 2, 1) := by decide +kernel
theorem dX13_fitting_68 : decode cX13_fitting 68 = .ok (.iload 4, 2) := by decide +kernel
theorem dX13_fitting_70 : decode cX13_fitting 70 = .ok (.imul, 1) := by decide +kernel
theorem dX13_fitting_71 : decode cX13_fitting 71 = .ok (.iadd, 1) := by decide +kernel
theorem dX13_fitting_72 : decode cX13_fitting 72 = .ok (.iaload, 1) := by decide +kernel
theorem dX13_fitting_73 : decode cX13_fitting 73 = .ok (.ishr, 1) := by decide +kernel
theorem dX13_fitting_74 : decode cX13_fitting 74 = .ok (.iconst 1, 1) := by decide +kernel
theorem dX13_fitting_75 : decode cX13_fitting 75 = .ok (.iand, 1) := by decide +kernel
theorem dX13_fitting_76 : decode cX13_fitting 76 = .ok (.aload_n 0, 1) := by decide +kernel
theorem dX13_fitting_77 : decode cX13_fitting 77 = .ok (.getfield 125, 3) := by decide +kernel
theorem dX13_fitting_80 : decode cX13_fitting 80 = .ok (.bipush 49, 2) := by decide +kernel
theorem dX13_fitting_82 : decode cX13_fitting 82 = .ok (.iconst 2, 1) := by decide +kernel
theorem dX13_fitting_83 : decode cX13_fitting 83 = .ok (.iload 4, 2) := by decide +kernel
theorem dX13_fitting_85 : decode cX13_fitting 85 = .ok (.imul, 1) := by decide +kernel
theorem dX13_fitting_86 : decode cX13_fitting 86 = .ok (.iadd, 1) := by decide +kernel
theorem dX13_fitting_87 : decode cX13_fitting 87 = .ok (.iconst 1, 1) := by decide +kernel
theorem dX13_fitting_88 : decode cX13_fitting 88 = .ok (.iadd, 1) := by decide +kernel
theorem dX13_fitting_89 : decode cX13_fitting 89 = .ok (.iaload, 1) := by decide +kernel
theorem dX13_fitting_90 : decode cX13_fitting 90 = .ok (.if_icmp .ne 7, 3) := by decide +kernel
theorem dX13_fitting_93 : decode cX13_fitting 93 = .ok (.iconst 1, 1) := by decide +kernel
theorem dX13_fitting_94 : decode cX13_fitting 94 = .ok (.goto 4, 3) := by decide +kernel
theorem dX13_fitting_97 : decode cX13_fitting 97 = .ok (.iconst 0, 1) := by decide +kernel
theorem dX13_fitting_98 : decode cX13_fitting 98 = .ok (.istore_n 3, 1) := by decide +kernel
theorem dX13_fitting_99 : decode cX13_fitting 99 = .ok (.iinc 4 1, 3) := by decide +kernel
theorem dX13_fitting_102 : decode cX13_fitting 102 = .ok (.goto (-65), 3) := by decide +kernel
theorem dX13_fitting_105 : decode cX13_fitting 105 = .ok (.iload_n 1, 1) := by decide +kernel
theorem dX13_fitting_106 : decode cX13_fitting 106 = .ok (.iload_n 3, 1) := by decide +kernel
theorem dX13_fitting_107 : decode cX13_fitting 107 = .ok (.ifCond .eq 9, 3) := by decide +kernel
theorem dX13_fitting_110 : decode cX13_fitting 110 = .ok (.iconst 1, 1) := by decide +kernel
theorem dX13_fitting_111 : decode cX13_fitting 111 = .ok (.iload_n 2, 1) := by decide +kernel
theorem dX13_fitting_112 : decode cX13_fitting 112 = .ok (.ishl, 1) := by decide +kernel
theorem dX13_fitting_113 : decode cX13_fitting 113 = .ok (.goto 4, 3) := by decide +kernel
theorem dX13_fitting_116 : decode cX13_fitting 116 = .ok (.iconst 0, 1) := by decide +kernel
theorem dX13_fitting_117 : decode cX13_fitting 117 = .ok (.ior, 1) := by decide +kernel
theorem dX13_fitting_118 : decode cX13_fitting 118 = .ok (.istore_n 1, 1) := by decide +kernel
theorem dX13_fitting_119 : decode cX13_fitting 119 = .ok (.iinc 2 1, 3) := by decide +kernel
theorem dX13_fitting_122 : decode cX13_fitting 122 = .ok (.goto (-118), 3) := by decide +kernel
theorem dX13_fitting_125 : decode cX13_fitting 125 = .ok (.iload_n 1, 1) := by decide +kernel
theorem dX13_fitting_126 : decode cX13_fitting 126 = .ok (.ireturn, 1) := by decide +kernel
set_option maxRecDepth 20000 in
theorem ggX13_fits_X13_fitting : GoodIn wsX13_fits wsX13_fitting := goodIn_r _ [6, 7, 8, 9, 10, 11, 12, 13, 14, 15, 16, 17, 18, 19, 20, 21, 22, 23, 24, 25, 26, 27, 28, 29, 30, 31, 32, 33, 34, 35, 36, 37, 38, 39, 40, 41, 42, 43, 44, 45, 46, 47, 48] (by decide +kernel) (by decide +kernel)
set_option maxRecDepth 20000 in
theorem gX13_fits_X13_fitting : GoodIn wsX13_fits (wsV RX13 424 RX13 yX13_fitting wsX13_fitting) := goodIn_app (goodIn_of _ (by decide +kernel)) ggX13_fits_X13_fitting
theorem dX13_fits_0 : decode cX13_fits 0 = .ok (.aload_n 0, 1) := by decide +kernel
theorem dX13_fits_1 : decode cX13_fits 1 = .ok (.iconst 0, 1) := by decide +kernel
theorem dX13_fits_2 : decode cX13_fits 2 = .ok (.putfield 1, 3) := by decide +kernel
theorem dX13_fits_5 : decode cX13_fits 5 = .ok (.aload_n 0, 1) := by decide +kernel
theorem dX13_fits_6 : decode cX13_fits 6 = .ok (.invokevirtual 424, 3) := by decide +kernel
theorem dX13_fits_9 : decode cX13_fits 9 = .ok (.ireturn, 1) := by decide +kernel
set_option maxRecDepth 20000 in
theorem ggX13_ask_X13_fitting : GoodIn wsX13_ask wsX13_fitting := goodIn_r _ [7, 2, 16, 17, 18, 19, 20, 21, 22, 23, 24, 25, 26, 27, 28, 29, 30, 31, 32, 33, 34, 35, 36, 37, 38, 39, 40, 41, 42, 43, 44, 45, 46, 47, 48, 49, 50, 51, 52, 53, 54, 55, 56] (by decide +kernel) (by decide +kernel)
set_option maxRecDepth 20000 in
theorem gX13_ask_X13_fitting : GoodIn wsX13_ask (wsV RX13 424 RX13 yX13_fitting wsX13_fitting) := goodIn_app (goodIn_of _ (by decide +kernel)) ggX13_ask_X13_fitting
set_option maxRecDepth 20000 in
theorem ggX13_ask_X13_bits : GoodIn wsX13_ask wsX13_bits := goodIn_r _ [10] (by decide +kernel) (by decide +kernel)
set_option maxRecDepth 20000 in
theorem gX13_ask_X13_bits : GoodIn wsX13_ask (va_wsS RX13 339 yX13_bits wsX13_bits) := goodIn_app (goodIn_of _ (by decide +kernel)) ggX13_ask_X13_bits
set_option maxRecDepth 20000 in
theorem ggX13_ask_X13_spots : GoodIn wsX13_ask wsX13_spots := goodIn_r _ [14, 15, 16, 17, 18, 19, 20, 21, 22, 23, 24, 25, 26, 27, 28, 29, 30, 31, 32, 33, 34, 35, 36, 37, 38, 39, 40, 41, 42, 43, 44, 45, 46, 47, 48, 49, 50, 51, 52, 53, 54, 55, 56] (by decide +kernel) (by decide +kernel)
set_option maxRecDepth 20000 in
theorem gX13_ask_X13_spots : GoodIn wsX13_ask (wsV RX13 336 RX13 yX13_spots wsX13_spots) := goodIn_app (goodIn_of _ (by decide +kernel)) ggX13_ask_X13_spots
theorem dX13_ask_0 : decode cX13_ask 0 = .ok (.aload_n 0, 1) := by decide +kernel
theorem dX13_ask_1 : decode cX13_ask 1 = .ok (.iconst 0, 1) := by decide +kernel
theorem dX13_ask_2 : decode cX13_ask 2 = .ok (.putfield 1, 3) := by decide +kernel
theorem dX13_ask_5 : decode cX13_ask 5 = .ok (.aload_n 0, 1) := by decide +kernel
theorem dX13_ask_6 : decode cX13_ask 6 = .ok (.invokevirtual 424, 3) := by decide +kernel
theorem dX13_ask_9 : decode cX13_ask 9 = .ok (.istore_n 1, 1) := by decide +kernel
theorem dX13_ask_10 : decode cX13_ask 10 = .ok (.iconst (-1), 1) := by decide +kernel
theorem dX13_ask_11 : decode cX13_ask 11 = .ok (.istore_n 2, 1) := by decide +kernel
theorem dX13_ask_12 : decode cX13_ask 12 = .ok (.iload_n 1, 1) := by decide +kernel
theorem dX13_ask_13 : decode cX13_ask 13 = .ok (.invokestatic 339, 3) := by decide +kernel
theorem dX13_ask_16 : decode cX13_ask 16 = .ok (.istore_n 3, 1) := by decide +kernel
theorem dX13_ask_17 : decode cX13_ask 17 = .ok (.iconst 0, 1) := by decide +kernel
theorem dX13_ask_18 : decode cX13_ask 18 = .ok (.istore 4, 2) := by decide +kernel
theorem dX13_ask_20 : decode cX13_ask 20 = .ok (.iload 4, 2) := by decide +kernel
theorem dX13_ask_22 : decode cX13_ask 22 = .ok (.aload_n 0, 1) := by decide +kernel
theorem dX13_ask_23 : decode cX13_ask 23 = .ok (.invokevirtual 336, 3) := by decide +kernel
theorem dX13_ask_26 : decode cX13_ask 26 = .ok (.if_icmp .ge 118, 3) := by decide +kernel
theorem dX13_ask_29 : decode cX13_ask 29 = .ok (.iconst 0, 1) := by decide +kernel
theorem dX13_ask_30 : decode cX13_ask 30 = .ok (.istore 5, 2) := by decide +kernel
theorem dX13_ask_32 : decode cX13_ask 32 = .ok (.iconst 0, 1) := by decide +kernel
theorem dX13_ask_33 : decode cX13_ask 33 = .ok (.istore 6, 2) := by decide +kernel
theorem dX13_ask_35 : decode cX13_ask 35 = .ok (.iload 6, 2) := by decide +kernel
theorem dX13_ask_37 : decode cX13_ask 37 = .ok (.bipush 8, 2) := by decide +kernel
theorem dX13_ask_39 : decode cX13_ask 39 = .ok (.if_icmp .ge 47, 3) := by decide +kernel
theorem dX13_ask_42 : decode cX13_ask 42 = .ok (.iload 5, 2) := by decide +kernel
theorem dX13_ask_44 : decode cX13_ask 44 = .ok (.iload_n 1, 1) := by decide +kernel
theorem dX13_ask_45 : decode cX13_ask 45 = .ok (.iload 6, 2) := by decide +kernel
theorem dX13_ask_47 : decode cX13_ask 47 = .ok (.ishr, 1) := by decide +kernel
theorem dX13_ask_48 : decode cX13_ask 48 = .ok (.iconst 1, 1) := by decide +kernel
theorem dX13_ask_49 : decode cX13_ask 49 = .ok (.iand, 1) := by decide +kernel
theorem dX13_ask_50 : decode cX13_ask 50 = .ok (.iconst 1, 1) := by decide +kernel
theorem dX13_ask_51 : decode cX13_ask 51 = .ok (.if_icmp .ne 25, 3) := by decide +kernel
theorem dX13_ask_54 : decode cX13_ask 54 = .ok (.aload_n 0, 1) := by decide +kernel
theorem dX13_ask_55 : decode cX13_ask 55 = .ok (.getfield 125, 3) := by decide +kernel
theorem dX13_ask_58 : decode cX13_ask 58 = .ok (.iconst 3, 1) := by decide +kernel
theorem dX13_ask_59 : decode cX13_ask 59 = .ok (.iload 6, 2) := by decide +kernel
theorem dX13_ask_61 : decode cX13_ask 61 = .ok (.iadd, 1) := by decide +kernel
theorem dX13_ask_62 : decode cX13_ask 62 = .ok (.iaload, 1) := by decide +kernel
theorem dX13_ask_63 : decode cX13_ask 63 = .ok (.iload 4, 2) := by decide +kernel
theorem dX13_ask_65 : decode cX13_ask 65 = .ok (.ishr, 1) := by decide +kernel
theorem dX13_ask_66 : decode cX13_ask 66 = .ok (.iconst 1, 1) := by decide +kernel
theorem dX13_ask_67 : decode cX13_ask 67 = .ok (.iand, 1) := by decide +kernel
theorem dX13_ask_68 : decode cX13_ask 68 = .ok (.iconst 1, 1) := by decide +kernel
theorem dX13_ask_69 : decode cX13_ask 69 = .ok (.if_icmp .ne 7, 3) := by decide +kernel
theorem dX13_ask_72 : decode cX13_ask 72 = .ok (.iconst 1, 1) := by decide +kernel
theorem dX13_ask_73 : decode cX13_ask 73 = .ok (.goto 4, 3) := by decide +kernel
theorem dX13_ask_76 : decode cX13_ask 76 = .ok (.iconst 0, 1) := by decide +kernel
theorem dX13_ask_77 : decode cX13_ask 77 = .ok (.iadd, 1) := by decide +kernel
theorem dX13_ask_78 : decode cX13_ask 78 = .ok (.istore 5, 2) := by decide +kernel
theorem dX13_ask_80 : decode cX13_ask 80 = .ok (.iinc 6 1, 3) := by decide +kernel
theorem dX13_ask_83 : decode cX13_ask 83 = .ok (.goto (-48), 3) := by decide +kernel
theorem dX13_ask_86 : decode cX13_ask 86 = .ok (.iload 5, 2) := by decide +kernel
theorem dX13_ask_88 : decode cX13_ask 88 = .ok (.iload_n 1, 1) := by decide +kernel
theorem dX13_ask_89 : decode cX13_ask 89 = .ok (.invokestatic 339, 3) := by decide +kernel
theorem dX13_ask_92 : decode cX13_ask 92 = .ok (.iload 5, 2) := by decide +kernel
theorem dX13_ask_94 : decode cX13_ask 94 = .ok (.isub, 1) := by decide +kernel
theorem dX13_ask_95 : decode cX13_ask 95 = .ok (.if_icmp .le 8, 3) := by decide +kernel
theorem dX13_ask_98 : decode cX13_ask 98 = .ok (.iload 5, 2) := by decide +kernel
theorem dX13_ask_100 : decode cX13_ask 100 = .ok (.goto 10, 3) := by decide +kernel
theorem dX13_ask_103 : decode cX13_ask 103 = .ok (.iload_n 1, 1) := by decide +kernel
theorem dX13_ask_104 : decode cX13_ask 104 = .ok (.invokestatic 339, 3) := by decide +kernel
theorem dX13_ask_107 : decode cX13_ask 107 = .ok (.iload 5, 2) := by decide +kernel
theorem dX13_ask_109 : decode cX13_ask 109 = .ok (.isub, 1) := by decide +kernel
theorem dX13_ask_110 : decode cX13_ask 110 = .ok (.istore 6, 2) := by decide +kernel
theorem dX13_ask_112 : decode cX13_ask 112 = .ok (.iload 6, 2) := by decide +kernel
theorem dX13_ask_114 : decode cX13_ask 114 = .ok (.iload_n 3, 1) := by decide +kernel
theorem dX13_ask_115 : decode cX13_ask 115 = .ok (.if_icmp .ge 8, 3) := by decide +kernel
theorem dX13_ask_118 : decode cX13_ask 118 = .ok (.iload 4, 2) := by decide +kernel
theorem dX13_ask_120 : decode cX13_ask 120 = .ok (.goto 4, 3) := by decide +kernel
theorem dX13_ask_123 : decode cX13_ask 123 = .ok (.iload_n 2, 1) := by decide +kernel
theorem dX13_ask_124 : decode cX13_ask 124 = .ok (.istore_n 2, 1) := by decide +kernel
theorem dX13_ask_125 : decode cX13_ask 125 = .ok (.iload 6, 2) := by decide +kernel
theorem dX13_ask_127 : decode cX13_ask 127 = .ok (.iload_n 3, 1) := by decide +kernel
theorem dX13_ask_128 : decode cX13_ask 128 = .ok (.if_icmp .ge 8, 3) := by decide +kernel
theorem dX13_ask_131 : decode cX13_ask 131 = .ok (.iload 6, 2) := by decide +kernel
theorem dX13_ask_133 : decode cX13_ask 133 = .ok (.goto 4, 3) := by decide +kernel
theorem dX13_ask_136 : decode cX13_ask 136 = .ok (.iload_n 3, 1) := by decide +kernel
theorem dX13_ask_137 : decode cX13_ask 137 = .ok (.istore_n 3, 1) := by decide +kernel
theorem dX13_ask_138 : decode cX13_ask 138 = .ok (.iinc 4 1, 3) := by decide +kernel
theorem dX13_ask_141 : decode cX13_ask 141 = .ok (.goto (-121), 3) := by decide +kernel
theorem dX13_ask_144 : decode cX13_ask 144 = .ok (.iload_n 2, 1) := by decide +kernel
theorem dX13_ask_145 : decode cX13_ask 145 = .ok (.ireturn, 1) := by decide +kernel
set_option maxRecDepth 20000 in
theorem ggX13_price_X13_fitting : GoodIn wsX13_price wsX13_fitting := goodIn_r _ [6, 7, 27, 28, 29, 30, 31, 32, 33, 34, 35, 36, 37, 38, 39, 40, 41, 42, 43, 44, 45, 46, 47, 48, 49, 50, 51, 52, 53, 54, 55, 56, 57, 58, 59, 60, 61, 62, 63, 64, 65, 66, 67] (by decide +kernel) (by decide +kernel)
set_option maxRecDepth 20000 in
theorem gX13_price_X13_fitting : GoodIn wsX13_price (wsV RX13 424 RX13 yX13_fitting wsX13_fitting) := goodIn_app (goodIn_of _ (by decide +kernel)) ggX13_price_X13_fitting
set_option maxRecDepth 20000 in
theorem ggX13_price_X13_worthOf : GoodIn wsX13_price wsX13_worthOf := goodIn_r _ [11, 12, 7, 13, 14, 15, 5, 16, 17, 18, 19, 20, 21, 22, 23, 24, 25, 26, 27, 28, 29, 30, 31, 32, 33, 34, 35, 36, 37, 38, 39, 40, 41, 42, 43, 44, 45, 46, 47, 48, 49, 50, 51, 52, 53, 54, 55, 56, 57, 58, 59, 60, 61, 62, 63, 64, 65, 66, 67] (by decide +kernel) (by decide +kernel)
set_option maxRecDepth 20000 in
theorem gX13_price_X13_worthOf : GoodIn wsX13_price (wsV RX13 349 RX13 yX13_worthOf wsX13_worthOf) := goodIn_app (goodIn_of _ (by decide +kernel)) ggX13_price_X13_worthOf
set_option maxRecDepth 20000 in
theorem ggX13_price_X13_bits : GoodIn wsX13_price wsX13_bits := goodIn_r _ [16] (by decide +kernel) (by decide +kernel)
set_option maxRecDepth 20000 in
theorem gX13_price_X13_bits : GoodIn wsX13_price (va_wsS RX13 339 yX13_bits wsX13_bits) := goodIn_app (goodIn_of _ (by decide +kernel)) ggX13_price_X13_bits
theorem dX13_price_0 : decode cX13_price 0 = .ok (.aload_n 0, 1) := by decide +kernel
theorem dX13_price_1 : decode cX13_price 1 = .ok (.iconst 0, 1) := by decide +kernel
theorem dX13_price_2 : decode cX13_price 2 = .ok (.putfield 1, 3) := by decide +kernel
theorem dX13_price_5 : decode cX13_price 5 = .ok (.aload_n 0, 1) := by decide +kernel
theorem dX13_price_6 : decode cX13_price 6 = .ok (.invokevirtual 424, 3) := by decide +kernel
theorem dX13_price_9 : decode cX13_price 9 = .ok (.istore_n 1, 1) := by decide +kernel
theorem dX13_price_10 : decode cX13_price 10 = .ok (.iconst 0, 1) := by decide +kernel
theorem dX13_price_11 : decode cX13_price 11 = .ok (.istore_n 2, 1) := by decide +kernel
theorem dX13_price_12 : decode cX13_price 12 = .ok (.iconst 0, 1) := by decide +kernel
theorem dX13_price_13 : decode cX13_price 13 = .ok (.istore_n 3, 1) := by decide +kernel
theorem dX13_price_14 : decode cX13_price 14 = .ok (.iload_n 3, 1) := by decide +kernel
theorem dX13_price_15 : decode cX13_price 15 = .ok (.bipush 8, 2) := by decide +kernel
theorem dX13_price_17 : decode cX13_price 17 = .ok (.if_icmp .ge 31, 3) := by decide +kernel
theorem dX13_price_20 : decode cX13_price 20 = .ok (.iload_n 2, 1) := by decide +kernel
theorem dX13_price_21 : decode cX13_price 21 = .ok (.iload_n 1, 1) := by decide +kernel
theorem dX13_price_22 : decode cX13_price 22 = .ok (.iload_n 3, 1) := by decide +kernel
theorem dX13_price_23 : decode cX13_price 23 = .ok (.ishr, 1) := by decide +kernel
theorem dX13_price_24 : decode cX13_price 24 = .ok (.iconst 1, 1) := by decide +kernel
theorem dX13_price_25 : decode cX13_price 25 = .ok (.iand, 1) := by decide +kernel
theorem dX13_price_26 : decode cX13_price 26 = .ok (.iconst 1, 1) := by decide +kernel
theorem dX13_price_27 : decode cX13_price 27 = .ok (.if_icmp .ne 12, 3) := by decide +kernel
theorem dX13_price_30 : decode cX13_price 30 = .ok (.aload_n 0, 1) := by decide +kernel
theorem dX13_price_31 : decode cX13_price 31 = .ok (.iconst 0, 1) := by decide +kernel
theorem dX13_price_32 : decode cX13_price 32 = .ok (.iload_n 3, 1) := by decide +kernel
theorem dX13_price_33 : decode cX13_price 33 = .ok (.invokevirtual 349, 3) := by decide +kernel
theorem dX13_price_36 : decode cX13_price 36 = .ok (.goto 4, 3) := by decide +kernel
theorem dX13_price_39 : decode cX13_price 39 = .ok (.iconst 0, 1) := by decide +kernel
theorem dX13_price_40 : decode cX13_price 40 = .ok (.iadd, 1) := by decide +kernel
theorem dX13_price_41 : decode cX13_price 41 = .ok (.istore_n 2, 1) := by decide +kernel
theorem dX13_price_42 : decode cX13_price 42 = .ok (.iinc 3 1, 3) := by decide +kernel
theorem dX13_price_45 : decode cX13_price 45 = .ok (.goto (-31), 3) := by decide +kernel
theorem dX13_price_48 : decode cX13_price 48 = .ok (.iload_n 1, 1) := by decide +kernel
theorem dX13_price_49 : decode cX13_price 49 = .ok (.ifCond .ne 7, 3) := by decide +kernel
theorem dX13_price_52 : decode cX13_price 52 = .ok (.iconst (-1), 1) := by decide +kernel
theorem dX13_price_53 : decode cX13_price 53 = .ok (.goto 13, 3) := by decide +kernel
theorem dX13_price_56 : decode cX13_price 56 = .ok (.iload_n 2, 1) := by decide +kernel
theorem dX13_price_57 : decode cX13_price 57 = .ok (.sipush 1000, 3) := by decide +kernel
theorem dX13_price_60 : decode cX13_price 60 = .ok (.imul, 1) := by decide +kernel
theorem dX13_price_61 : decode cX13_price 61 = .ok (.iload_n 1, 1) := by decide +kernel
theorem dX13_price_62 : decode cX13_price 62 = .ok (.invokestatic 339, 3) := by decide +kernel
theorem dX13_price_65 : decode cX13_price 65 = .ok (.idiv, 1) := by decide +kernel
theorem dX13_price_66 : decode cX13_price 66 = .ok (.ireturn, 1) := by decide +kernel
set_option maxRecDepth 20000 in
theorem ggX13_ways_X13_hardOf : GoodIn wsX13_ways wsX13_hardOf := goodIn_r _ [11, 12, 1, 13, 14, 15, 10, 16, 17, 18, 19, 20, 21, 22, 23, 24, 25, 26, 38, 39, 40, 41, 42, 43, 44, 45, 46, 47, 48, 49, 50, 51, 52, 53, 54, 55, 56, 57, 58, 59, 60, 61, 62, 63, 64, 65, 66, 67, 68, 69, 70, 71, 72, 73, 74, 75, 76, 77, 78] (by decide +kernel) (by decide +kernel)
set_option maxRecDepth 20000 in
theorem gX13_ways_X13_hardOf : GoodIn wsX13_ways (wsV RX13 376 RX13 yX13_hardOf wsX13_hardOf) := goodIn_app (goodIn_of _ (by decide +kernel)) ggX13_ways_X13_hardOf
set_option maxRecDepth 20000 in
theorem ggX13_ways_X13_thieves : GoodIn wsX13_ways wsX13_thieves := goodIn_r _ [30, 13, 38, 39, 40, 41, 42, 43, 44, 45, 46, 47, 48, 49, 50, 51, 52, 53, 54, 55, 56, 57, 58, 59, 60, 61, 62, 63, 64, 65, 66, 67, 68, 69, 70, 71, 72, 73, 74, 75, 76, 77, 78] (by decide +kernel) (by decide +kernel)
set_option maxRecDepth 20000 in
theorem gX13_ways_X13_thieves : GoodIn wsX13_ways (wsV RX13 320 RX13 yX13_thieves wsX13_thieves) := goodIn_app (goodIn_of _ (by decide +kernel)) ggX13_ways_X13_thieves
set_option maxRecDepth 20000 in
theorem ggX13_ways_X13_thiefOf : GoodIn wsX13_ways wsX13_thiefOf := goodIn_r _ [34, 13, 38, 39, 40, 41, 42, 43, 44, 45, 46, 47, 48, 49, 50, 51, 52, 53, 54, 55, 56, 57, 58, 59, 60, 61, 62, 63, 64, 65, 66, 67, 68, 69, 70, 71, 72, 73, 74, 75, 76, 77, 78] (by decide +kernel) (by decide +kernel)
set_option maxRecDepth 20000 in
theorem gX13_ways_X13_thiefOf : GoodIn wsX13_ways (wsV RX13 323 RX13 yX13_thiefOf wsX13_thiefOf) := goodIn_app (goodIn_of _ (by decide +kernel)) ggX13_ways_X13_thiefOf
set_option maxRecDepth 20000 in
theorem ggX13_ways_X13_ways : GoodIn wsX13_ways wsX13_ways := goodIn_r _ [0, 1, 2, 3, 4, 5, 6, 7, 8, 9, 10, 11, 12, 13, 14, 15, 16, 17, 18, 19, 20, 21, 22, 23, 24, 25, 26, 27, 28, 29, 30, 31, 32, 33, 34, 35, 36, 37, 38, 39, 40, 41, 42, 43, 44, 45, 46, 47, 48, 49, 50, 51, 52, 53, 54, 55, 56, 57, 58, 59, 60, 61, 62, 63, 64, 65, 66, 67, 68, 69, 70, 71, 72, 73, 74, 75, 76, 77, 78] (by decide +kernel) (by decide +kernel)
set_option maxRecDepth 20000 in
theorem gX13_ways_X13_ways : GoodIn wsX13_ways (wsV RX13 430 RX13 yX13_ways wsX13_ways) := goodIn_app (goodIn_of _ (by decide +kernel)) ggX13_ways_X13_ways
theorem dX13_ways_0 : decode cX13_ways 0 = .ok (.iload_n 1, 1) := by decide +kernel
theorem dX13_ways_1 : decode cX13_ways 1 = .ok (.aload_n 0, 1) := by decide +kernel
theorem dX13_ways_2 : decode cX13_ways 2 = .ok (.getfield 125, 3) := by decide +kernel
theorem dX13_ways_5 : decode cX13_ways 5 = .ok (.iconst 2, 1) := by decide +kernel
theorem dX13_ways_6 : decode cX13_ways 6 = .ok (.iaload, 1) := by decide +kernel
theorem dX13_ways_7 : decode cX13_ways 7 = .ok (.if_icmp .ne 72, 3) := by decide +kernel
theorem dX13_ways_10 : decode cX13_ways 10 = .ok (.iconst 1, 1) := by decide +kernel
theorem dX13_ways_11 : decode cX13_ways 11 = .ok (.istore_n 2, 1) := by decide +kernel
theorem dX13_ways_12 : decode cX13_ways 12 = .ok (.iload_n 2, 1) := by decide +kernel
theorem dX13_ways_13 : decode cX13_ways 13 = .ok (.iload_n 1, 1) := by decide +kernel
theorem dX13_ways_14 : decode cX13_ways 14 = .ok (.if_icmp .ge 54, 3) := by decide +kernel
theorem dX13_ways_17 : decode cX13_ways 17 = .ok (.aload_n 0, 1) := by decide +kernel
theorem dX13_ways_18 : decode cX13_ways 18 = .ok (.getfield 147, 3) := by decide +kernel
theorem dX13_ways_21 : decode cX13_ways 21 = .ok (.iload_n 2, 1) := by decide +kernel
theorem dX13_ways_22 : decode cX13_ways 22 = .ok (.aload_n 0, 1) := by decide +kernel
theorem dX13_ways_23 : decode cX13_ways 23 = .ok (.getfield 427, 3) := by decide +kernel
theorem dX13_ways_26 : decode cX13_ways 26 = .ok (.ifCond .ne 12, 3) := by decide +kernel
theorem dX13_ways_29 : decode cX13_ways 29 = .ok (.aload_n 0, 1) := by decide +kernel
theorem dX13_ways_30 : decode cX13_ways 30 = .ok (.getfield 144, 3) := by decide +kernel
theorem dX13_ways_33 : decode cX13_ways 33 = .ok (.iload_n 2, 1) := by decide +kernel
theorem dX13_ways_34 : decode cX13_ways 34 = .ok (.iaload, 1) := by decide +kernel
theorem dX13_ways_35 : decode cX13_ways 35 = .ok (.goto 9, 3) := by decide +kernel
theorem dX13_ways_38 : decode cX13_ways 38 = .ok (.aload_n 0, 1) := by decide +kernel
theorem dX13_ways_39 : decode cX13_ways 39 = .ok (.getfield 147, 3) := by decide +kernel
theorem dX13_ways_42 : decode cX13_ways 42 = .ok (.iload_n 2, 1) := by decide +kernel
theorem dX13_ways_43 : decode cX13_ways 43 = .ok (.iaload, 1) := by decide +kernel
theorem dX13_ways_44 : decode cX13_ways 44 = .ok (.iastore, 1) := by decide +kernel
theorem dX13_ways_45 : decode cX13_ways 45 = .ok (.aload_n 0, 1) := by decide +kernel
theorem dX13_ways_46 : decode cX13_ways 46 = .ok (.getfield 150, 3) := by decide +kernel
theorem dX13_ways_49 : decode cX13_ways 49 = .ok (.iload_n 2, 1) := by decide +kernel
theorem dX13_ways_50 : decode cX13_ways 50 = .ok (.dup2, 1) := by decide +kernel
theorem dX13_ways_51 : decode cX13_ways 51 = .ok (.iaload, 1) := by decide +kernel
theorem dX13_ways_52 : decode cX13_ways 52 = .ok (.iconst 1, 1) := by decide +kernel
theorem dX13_ways_53 : decode cX13_ways 53 = .ok (.aload_n 0, 1) := by decide +kernel
theorem dX13_ways_54 : decode cX13_ways 54 = .ok (.getfield 144, 3) := by decide +kernel
theorem dX13_ways_57 : decode cX13_ways 57 = .ok (.iload_n 2, 1) := by decide +kernel
theorem dX13_ways_58 : decode cX13_ways 58 = .ok (.iaload, 1) := by decide +kernel
theorem dX13_ways_59 : decode cX13_ways 59 = .ok (.ishl, 1) := by decide +kernel
theorem dX13_ways_60 : decode cX13_ways 60 = .ok (.ior, 1) := by decide +kernel
theorem dX13_ways_61 : decode cX13_ways 61 = .ok (.iastore, 1) := by decide +kernel
theorem dX13_ways_62 : decode cX13_ways 62 = .ok (.iinc 2 1, 3) := by decide +kernel
theorem dX13_ways_65 : decode cX13_ways 65 = .ok (.goto (-53), 3) := by decide +kernel
theorem dX13_ways_68 : decode cX13_ways 68 = .ok (.aload_n 0, 1) := by decide +kernel
theorem dX13_ways_69 : decode cX13_ways 69 = .ok (.dup, 1) := by decide +kernel
theorem dX13_ways_70 : decode cX13_ways 70 = .ok (.getfield 427, 3) := by decide +kernel
theorem dX13_ways_73 : decode cX13_ways 73 = .ok (.iconst 1, 1) := by decide +kernel
theorem dX13_ways_74 : decode cX13_ways 74 = .ok (.iadd, 1) := by decide +kernel
theorem dX13_ways_75 : decode cX13_ways 75 = .ok (.putfield 427, 3) := by decide +kernel
theorem dX13_ways_78 : decode cX13_ways 78 = .ok (.return_, 1) := by decide +kernel
theorem dX13_ways_79 : decode cX13_ways 79 = .ok (.aload_n 0, 1) := by decide +kernel
theorem dX13_ways_80 : decode cX13_ways 80 = .ok (.iconst 0, 1) := by decide +kernel
theorem dX13_ways_81 : decode cX13_ways 81 = .ok (.aload_n 0, 1) := by decide +kernel
theorem dX13_ways_82 : decode cX13_ways 82 = .ok (.getfield 125, 3) := by decide +kernel
theorem dX13_ways_85 : decode cX13_ways 85 = .ok (.bipush 27, 2) := by decide +kernel
theorem dX13_ways_87 : decode cX13_ways 87 = .ok (.iload_n 1, 1) := by decide +kernel
theorem dX13_ways_88 : decode cX13_ways 88 = .ok (.iadd, 1) := by decide +kernel
theorem dX13_ways_89 : decode cX13_ways 89 = .ok (.iaload, 1) := by decide +kernel
theorem dX13_ways_90 : decode cX13_ways 90 = .ok (.aload_n 0, 1) := by decide +kernel
theorem dX13_ways_91 : decode cX13_ways 91 = .ok (.getfield 125, 3) := by decide +kernel
theorem dX13_ways_94 : decode cX13_ways 94 = .ok (.bipush 35, 2) := by decide +kernel
theorem dX13_ways_96 : decode cX13_ways 96 = .ok (.iload_n 1, 1) := by decide +kernel
theorem dX13_ways_97 : decode cX13_ways 97 = .ok (.iadd, 1) := by decide +kernel
theorem dX13_ways_98 : decode cX13_ways 98 = .ok (.iaload, 1) := by decide +kernel
theorem dX13_ways_99 : decode cX13_ways 99 = .ok (.invokevirtual 376, 3) := by decide +kernel
theorem dX13_ways_102 : decode cX13_ways 102 = .ok (.istore_n 2, 1) := by decide +kernel
theorem dX13_ways_103 : decode cX13_ways 103 = .ok (.iconst 0, 1) := by decide +kernel
theorem dX13_ways_104 : decode cX13_ways 104 = .ok (.istore_n 3, 1) := by decide +kernel
theorem dX13_ways_105 : decode cX13_ways 105 = .ok (.iload_n 3, 1) := by decide +kernel
theorem dX13_ways_106 : decode cX13_ways 106 = .ok (.aload_n 0, 1) := by decide +kernel
theorem dX13_ways_107 : decode cX13_ways 107 = .ok (.invokevirtual 320, 3) := by decide +kernel
theorem dX13_ways_110 : decode cX13_ways 110 = .ok (.if_icmp .ge 63, 3) := by decide +kernel
theorem dX13_ways_113 : decode cX13_ways 113 = .ok (.aload_n 0, 1) := by decide +kernel
theorem dX13_ways_114 : decode cX13_ways 114 = .ok (.getfield 141, 3) := by decide +kernel
theorem dX13_ways_117 : decode cX13_ways 117 = .ok (.iload_n 3, 1) := by decide +kernel
theorem dX13_ways_118 : decode cX13_ways 118 = .ok (.iaload, 1) := by decide +kernel
theorem dX13_ways_119 : decode cX13_ways 119 = .ok (.iconst 2, 1) := by decide +kernel
theorem dX13_ways_120 : decode cX13_ways 120 = .ok (.if_icmp .ge 47, 3) := by decide +kernel
theorem dX13_ways_123 : decode cX13_ways 123 = .ok (.aload_n 0, 1) := by decide +kernel
theorem dX13_ways_124 : decode cX13_ways 124 = .ok (.iload_n 3, 1) := by decide +kernel
theorem dX13_ways_125 : decode cX13_ways 125 = .ok (.iconst 1, 1) := by decide +kernel
theorem dX13_ways_126 : decode cX13_ways 126 = .ok (.invokevirtual 323, 3) := by decide +kernel
theorem dX13_ways_129 : decode cX13_ways 129 = .ok (.iload_n 2, 1) := by decide +kernel
theorem dX13_ways_130 : decode cX13_ways 130 = .ok (.if_icmp .lt 37, 3) := by decide +kernel
theorem dX13_ways_133 : decode cX13_ways 133 = .ok (.aload_n 0, 1) := by decide +kernel
theorem dX13_ways_134 : decode cX13_ways 134 = .ok (.getfield 141, 3) := by decide +kernel
theorem dX13_ways_137 : decode cX13_ways 137 = .ok (.iload_n 3, 1) := by decide +kernel
theorem dX13_ways_138 : decode cX13_ways 138 = .ok (.dup2, 1) := by decide +kernel
theorem dX13_ways_139 : decode cX13_ways 139 = .ok (.iaload, 1) := by decide +kernel
theorem dX13_ways_140 : decode cX13_ways 140 = .ok (.iconst 1, 1) := by decide +kernel
theorem dX13_ways_141 : decode cX13_ways 141 = .ok (.iadd, 1) := by decide +kernel
theorem dX13_ways_142 : decode cX13_ways 142 = .ok (.iastore, 1) := by decide +kernel
theorem dX13_ways_143 : decode cX13_ways 143 = .ok (.aload_n 0, 1) := by decide +kernel
theorem dX13_ways_144 : decode cX13_ways 144 = .ok (.getfield 144, 3) := by decide +kernel
theorem dX13_ways_147 : decode cX13_ways 147 = .ok (.iload_n 1, 1) := by decide +kernel
theorem dX13_ways_148 : decode cX13_ways 148 = .ok (.iload_n 3, 1) := by decide +kernel
theorem dX13_ways_149 : decode cX13_ways 149 = .ok (.iastore, 1) := by decide +kernel
theorem dX13_ways_150 : decode cX13_ways 150 = .ok (.aload_n 0, 1) := by decide +kernel
theorem dX13_ways_151 : decode cX13_ways 151 = .ok (.iload_n 1, 1) := by decide +kernel
theorem dX13_ways_152 : decode cX13_ways 152 = .ok (.iconst 1, 1) := by decide +kernel
theorem dX13_ways_153 : decode cX13_ways 153 = .ok (.iadd, 1) := by decide +kernel
theorem dX13_ways_154 : decode cX13_ways 154 = .ok (.invokevirtual 430, 3) := by decide +kernel
theorem dX13_ways_157 : decode cX13_ways 157 = .ok (.aload_n 0, 1) := by decide +kernel
theorem dX13_ways_158 : decode cX13_ways 158 = .ok (.getfield 141, 3) := by decide +kernel
theorem dX13_ways_161 : decode cX13_ways 161 = .ok (.iload_n 3, 1) := by decide +kernel
theorem dX13_ways_162 : decode cX13_ways 162 = .ok (.dup2, 1) := by decide +kernel
theorem dX13_ways_163 : decode cX13_ways 163 = .ok (.iaload, 1) := by decide +kernel
theorem dX13_ways_164 : decode cX13_ways 164 = .ok (.iconst 1, 1) := by decide +kernel
theorem dX13_ways_165 : decode cX13_ways 165 = .ok (.isub, 1) := by decide +kernel
theorem dX13_ways_166 : decode cX13_ways 166 = .ok (.iastore, 1) := by decide +kernel
theorem dX13_ways_167 : decode cX13_ways 167 = .ok (.iinc 3 1, 3) := by decide +kernel
theorem dX13_ways_170 : decode cX13_ways 170 = .ok (.goto (-65), 3) := by decide +kernel
theorem dX13_ways_173 : decode cX13_ways 173 = .ok (.return_, 1) := by decide +kernel
set_option maxRecDepth 20000 in
theorem ggX13_findWays_X13_ways : GoodIn wsX13_findWays wsX13_ways := goodIn_r _ [7, 8, 9, 1, 10, 2, 11, 12, 13, 14, 6, 15, 16, 17, 18, 19, 20, 21, 22, 23, 24, 25, 26, 27, 28, 29, 30, 31, 32, 33, 34, 35, 36, 37, 38, 3, 4, 5, 39, 40, 41, 42, 43, 44, 45, 46, 47, 48, 49, 50, 51, 52, 53, 54, 55, 56, 57, 58, 59, 60, 61, 62, 63, 64, 65, 66, 67, 68, 69, 70, 71, 72, 73, 74, 75, 76, 77, 78, 79] (by decide +kernel) (by decide +kernel)
set_option maxRecDepth 20000 in
theorem gX13_findWays_X13_ways : GoodIn wsX13_findWays (wsV RX13 430 RX13 yX13_ways wsX13_ways) := goodIn_app (goodIn_of _ (by decide +kernel)) ggX13_findWays_X13_ways
theorem dX13_findWays_0 : decode cX13_findWays 0 = .ok (.aload_n 0, 1) := by decide +kernel
theorem dX13_findWays_1 : decode cX13_findWays 1 = .ok (.iconst 0, 1) := by decide +kernel
theorem dX13_findWays_2 : decode cX13_findWays 2 = .ok (.putfield 427, 3) := by decide +kernel
theorem dX13_findWays_5 : decode cX13_findWays 5 = .ok (.iconst 0, 1) := by decide +kernel
theorem dX13_findWays_6 : decode cX13_findWays 6 = .ok (.istore_n 1, 1) := by decide +kernel
theorem dX13_findWays_7 : decode cX13_findWays 7 = .ok (.iload_n 1, 1) := by decide +kernel
theorem dX13_findWays_8 : decode cX13_findWays 8 = .ok (.bipush 8, 2) := by decide +kernel
theorem dX13_findWays_10 : decode cX13_findWays 10 = .ok (.if_icmp .ge 16, 3) := by decide +kernel
theorem dX13_findWays_13 : decode cX13_findWays 13 = .ok (.aload_n 0, 1) := by decide +kernel
theorem dX13_findWays_14 : decode cX13_findWays 14 = .ok (.getfield 150, 3) := by decide +kernel
theorem dX13_findWays_17 : decode cX13_findWays 17 = .ok (.iload_n 1, 1) := by decide +kernel
theorem dX13_findWays_18 : decode cX13_findWays 18 = .ok (.iconst 0, 1) := by decide +kernel
theorem dX13_findWays_19 : decode cX13_findWays 19 = .ok (.iastore, 1) := by decide +kernel
theorem dX13_findWays_20 : decode cX13_findWays 20 = .ok (.iinc 1 1, 3) := by decide +kernel
theorem dX13_findWays_23 : decode cX13_findWays 23 = .ok (.goto (-16), 3) := by decide +kernel
theorem dX13_findWays_26 : decode cX13_findWays 26 = .ok (.aload_n 0, 1) := by decide +kernel
theorem dX13_findWays_27 : decode cX13_findWays 27 = .ok (.iconst 1, 1) := by decide +kernel
theorem dX13_findWays_28 : decode cX13_findWays 28 = .ok (.invokevirtual 430, 3) := by decide +kernel
theorem dX13_findWays_31 : decode cX13_findWays 31 = .ok (.return_, 1) := by decide +kernel
set_option maxRecDepth 20000 in
theorem ggX13_painters_X13_findWays : GoodIn wsX13_painters wsX13_findWays := goodIn_r _ [7, 2, 8, 9, 10, 11, 6, 12, 13, 14, 15, 16, 17, 18, 19, 20, 21, 22, 23, 24, 25, 26, 27, 28, 29, 30, 31, 32, 33, 34, 35, 36, 37, 38, 39, 40, 41, 42, 43, 44, 45, 46, 47, 48, 49, 50, 51, 52, 53, 54, 55, 56, 57, 58, 59, 60, 61, 62, 63, 64, 65, 66, 67, 68, 69, 70, 71, 72, 73, 74, 75, 76, 77, 78, 79, 80, 81, 82, 83, 84] (by decide +kernel) (by decide +kernel)
set_option maxRecDepth 20000 in
theorem gX13_painters_X13_findWays : GoodIn wsX13_painters (wsV RX13 433 RX13 yX13_findWays wsX13_findWays) := goodIn_app (goodIn_of _ (by decide +kernel)) ggX13_painters_X13_findWays
theorem dX13_painters_0 : decode cX13_painters 0 = .ok (.aload_n 0, 1) := by decide +kernel
theorem dX13_painters_1 : decode cX13_painters 1 = .ok (.iconst 0, 1) := by decide +kernel
theorem dX13_painters_2 : decode cX13_painters 2 = .ok (.putfield 1, 3) := by decide +kernel
theorem dX13_painters_5 : decode cX13_painters 5 = .ok (.aload_n 0, 1) := by decide +kernel
theorem dX13_painters_6 : decode cX13_painters 6 = .ok (.invokevirtual 433, 3) := by decide +kernel
theorem dX13_painters_9 : decode cX13_painters 9 = .ok (.aload_n 0, 1) := by decide +kernel
theorem dX13_painters_10 : decode cX13_painters 10 = .ok (.getfield 427, 3) := by decide +kernel
theorem dX13_painters_13 : decode cX13_painters 13 = .ok (.ireturn, 1) := by decide +kernel
set_option maxRecDepth 20000 in
theorem ggX13_painter_X13_isPiece : GoodIn wsX13_painter wsX13_isPiece := goodIn_r _ [9, 10, 48, 49, 50, 51, 52, 53, 54, 55, 56, 57, 58, 59, 60, 61, 62, 63, 64, 65, 66, 67, 68, 69, 70, 71, 72, 73, 74, 75, 76, 77, 78, 79, 80, 81, 82, 83, 84, 85, 86, 87, 88] (by decide +kernel) (by decide +kernel)
set_option maxRecDepth 20000 in
theorem gX13_painter_X13_isPiece : GoodIn wsX13_painter (wsV RX13 345 RX13 yX13_isPiece wsX13_isPiece) := goodIn_app (goodIn_of _ (by decide +kernel)) ggX13_painter_X13_isPiece
set_option maxRecDepth 20000 in
theorem ggX13_painter_X13_findWays : GoodIn wsX13_painter wsX13_findWays := goodIn_r _ [14, 2, 3, 15, 16, 17, 8, 18, 10, 4, 19, 20, 21, 22, 23, 24, 25, 26, 27, 28, 29, 30, 31, 32, 33, 34, 35, 36, 37, 38, 39, 40, 41, 42, 43, 44, 45, 46, 47, 48, 49, 50, 51, 52, 53, 54, 55, 56, 57, 58, 59, 60, 61, 62, 63, 64, 65, 66, 67, 68, 69, 70, 71, 72, 73, 74, 75, 76, 77, 78, 79, 80, 81, 82, 83, 84, 85, 86, 87, 88] (by decide +kernel) (by decide +kernel)
set_option maxRecDepth 20000 in
theorem gX13_painter_X13_findWays : GoodIn wsX13_painter (wsV RX13 433 RX13 yX13_findWays wsX13_findWays) := goodIn_app (goodIn_of _ (by decide +kernel)) ggX13_painter_X13_findWays
set_option maxRecDepth 20000 in
theorem ggX13_painter_X13_bits : GoodIn wsX13_painter wsX13_bits := goodIn_r _ [29] (by decide +kernel) (by decide +kernel)
set_option maxRecDepth 20000 in
theorem gX13_painter_X13_bits : GoodIn wsX13_painter (va_wsS RX13 339 yX13_bits wsX13_bits) := goodIn_app (goodIn_of _ (by decide +kernel)) ggX13_painter_X13_bits
theorem dX13_painter_0 : decode cX13_painter 0 = .ok (.aload_n 0, 1) := by decide +kernel
theorem dX13_painter_1 : decode cX13_painter 1 = .ok (.iconst 0, 1) := by decide +kernel
theorem dX13_painter_2 : decode cX13_painter 2 = .ok (.putfield 1, 3) := by decide +kernel
theorem dX13_painter_5 : decode cX13_painter 5 = .ok (.iload_n 1, 1) := by decide +kernel
theorem dX13_painter_6 : decode cX13_painter 6 = .ok (.ifCond .eq 12, 3) := by decide +kernel
theorem dX13_painter_9 : decode cX13_painter 9 = .ok (.aload_n 0, 1) := by decide +kernel
theorem dX13_painter_10 : decode cX13_painter 10 = .ok (.iconst 0, 1) := by decide +kernel
theorem dX13_painter_11 : decode cX13_painter 11 = .ok (.iload_n 1, 1) := by decide +kernel
theorem dX13_painter_12 : decode cX13_painter 12 = .ok (.invokevirtual 345, 3) := by decide +kernel
theorem dX13_painter_15 : decode cX13_painter 15 = .ok (.ifCond .ne 5, 3) := by decide +kernel
theorem dX13_painter_18 : decode cX13_painter 18 = .ok (.iconst (-1), 1) := by decide +kernel
theorem dX13_painter_19 : decode cX13_painter 19 = .ok (.ireturn, 1) := by decide +kernel
theorem dX13_painter_20 : decode cX13_painter 20 = .ok (.aload_n 0, 1) := by decide +kernel
theorem dX13_painter_21 : decode cX13_painter 21 = .ok (.invokevirtual 433, 3) := by decide +kernel
theorem dX13_painter_24 : decode cX13_painter 24 = .ok (.aload_n 0, 1) := by decide +kernel
theorem dX13_painter_25 : decode cX13_painter 25 = .ok (.getfield 427, 3) := by decide +kernel
theorem dX13_painter_28 : decode cX13_painter 28 = .ok (.ifCond .eq 20, 3) := by decide +kernel
theorem dX13_painter_31 : decode cX13_painter 31 = .ok (.iload_n 2, 1) := by decide +kernel
theorem dX13_painter_32 : decode cX13_painter 32 = .ok (.ifCond .eq 20, 3) := by decide +kernel
theorem dX13_painter_35 : decode cX13_painter 35 = .ok (.aload_n 0, 1) := by decide +kernel
theorem dX13_painter_36 : decode cX13_painter 36 = .ok (.getfield 150, 3) := by decide +kernel
theorem dX13_painter_39 : decode cX13_painter 39 = .ok (.iload_n 1, 1) := by decide +kernel
theorem dX13_painter_40 : decode cX13_painter 40 = .ok (.iaload, 1) := by decide +kernel
theorem dX13_painter_41 : decode cX13_painter 41 = .ok (.invokestatic 339, 3) := by decide +kernel
theorem dX13_painter_44 : decode cX13_painter 44 = .ok (.iconst 1, 1) := by decide +kernel
theorem dX13_painter_45 : decode cX13_painter 45 = .ok (.if_icmp .le 7, 3) := by decide +kernel
theorem dX13_painter_48 : decode cX13_painter 48 = .ok (.iconst (-1), 1) := by decide +kernel
theorem dX13_painter_49 : decode cX13_painter 49 = .ok (.goto 9, 3) := by decide +kernel
theorem dX13_painter_52 : decode cX13_painter 52 = .ok (.aload_n 0, 1) := by decide +kernel
theorem dX13_painter_53 : decode cX13_painter 53 = .ok (.getfield 147, 3) := by decide +kernel
theorem dX13_painter_56 : decode cX13_painter 56 = .ok (.iload_n 1, 1) := by decide +kernel
theorem dX13_painter_57 : decode cX13_painter 57 = .ok (.iaload, 1) := by decide +kernel
theorem dX13_painter_58 : decode cX13_painter 58 = .ok (.ireturn, 1) := by decide +kernel
theorem dX13_knownBy_0 : decode cX13_knownBy 0 = .ok (.aload_n 0, 1) := by decide +kernel
theorem dX13_knownBy_1 : decode cX13_knownBy 1 = .ok (.getfield 95, 3) := by decide +kernel
theorem dX13_knownBy_4 : decode cX13_knownBy 4 = .ok (.bipush 26, 2) := by decide +kernel
theorem dX13_knownBy_6 : decode cX13_knownBy 6 = .ok (.iload_n 1, 1) := by decide +kernel
theorem dX13_knownBy_7 : decode cX13_knownBy 7 = .ok (.iadd, 1) := by decide +kernel
theorem dX13_knownBy_8 : decode cX13_knownBy 8 = .ok (.iaload, 1) := by decide +kernel
theorem dX13_knownBy_9 : decode cX13_knownBy 9 = .ok (.istore_n 3, 1) := by decide +kernel
theorem dX13_knownBy_10 : decode cX13_knownBy 10 = .ok (.iconst 0, 1) := by decide +kernel
theorem dX13_knownBy_11 : decode cX13_knownBy 11 = .ok (.istore 4, 2) := by decide +kernel
theorem dX13_knownBy_13 : decode cX13_knownBy 13 = .ok (.iconst 0, 1) := by decide +kernel
theorem dX13_knownBy_14 : decode cX13_knownBy 14 = .ok (.istore 5, 2) := by decide +kernel
theorem dX13_knownBy_16 : decode cX13_knownBy 16 = .ok (.iload 5, 2) := by decide +kernel
theorem dX13_knownBy_18 : decode cX13_knownBy 18 = .ok (.aload_n 0, 1) := by decide +kernel
theorem dX13_knownBy_19 : decode cX13_knownBy 19 = .ok (.getfield 125, 3) := by decide +kernel
theorem dX13_knownBy_22 : decode cX13_knownBy 22 = .ok (.iconst 2, 1) := by decide +kernel
theorem dX13_knownBy_23 : decode cX13_knownBy 23 = .ok (.iaload, 1) := by decide +kernel
theorem dX13_knownBy_24 : decode cX13_knownBy 24 = .ok (.if_icmp .ge 108, 3) := by decide +kernel
theorem dX13_knownBy_27 : decode cX13_knownBy 27 = .ok (.iconst 1, 1) := by decide +kernel
theorem dX13_knownBy_28 : decode cX13_knownBy 28 = .ok (.istore 6, 2) := by decide +kernel
theorem dX13_knownBy_30 : decode cX13_knownBy 30 = .ok (.iconst 0, 1) := by decide +kernel
theorem dX13_knownBy_31 : decode cX13_knownBy 31 = .ok (.istore 7, 2) := by decide +kernel
theorem dX13_knownBy_33 : decode cX13_knownBy 33 = .ok (.iload 7, 2) := by decide +kernel
theorem dX13_knownBy_35 : decode cX13_knownBy 35 = .ok (.aload_n 0, 1) := by decide +kernel
theorem dX13_knownBy_36 : decode cX13_knownBy 36 = .ok (.getfield 125, 3) := by decide +kernel
theorem dX13_knownBy_39 : decode cX13_knownBy 39 = .ok (.iconst 2, 1) := by decide +kernel
theorem dX13_knownBy_40 : decode cX13_knownBy 40 = .ok (.iaload, 1) := by decide +kernel
theorem dX13_knownBy_41 : decode cX13_knownBy 41 = .ok (.if_icmp .ge 67, 3) := by decide +kernel
theorem dX13_knownBy_44 : decode cX13_knownBy 44 = .ok (.aload_n 0, 1) := by decide +kernel
theorem dX13_knownBy_45 : decode cX13_knownBy 45 = .ok (.getfield 125, 3) := by decide +kernel
theorem dX13_knownBy_48 : decode cX13_knownBy 48 = .ok (.iconst 3, 1) := by decide +kernel
theorem dX13_knownBy_49 : decode cX13_knownBy 49 = .ok (.iload 5, 2) := by decide +kernel
theorem dX13_knownBy_51 : decode cX13_knownBy 51 = .ok (.iadd, 1) := by decide +kernel
theorem dX13_knownBy_52 : decode cX13_knownBy 52 = .ok (.iaload, 1) := by decide +kernel
theorem dX13_knownBy_53 : decode cX13_knownBy 53 = .ok (.aload_n 0, 1) := by decide +kernel
theorem dX13_knownBy_54 : decode cX13_knownBy 54 = .ok (.getfield 125, 3) := by decide +kernel
theorem dX13_knownBy_57 : decode cX13_knownBy 57 = .ok (.iconst 3, 1) := by decide +kernel
theorem dX13_knownBy_58 : decode cX13_knownBy 58 = .ok (.iload 7, 2) := by decide +kernel
theorem dX13_knownBy_60 : decode cX13_knownBy 60 = .ok (.iadd, 1) := by decide +kernel
theorem dX13_knownBy_61 : decode cX13_knownBy 61 = .ok (.iaload, 1) := by decide +kernel
theorem dX13_knownBy_62 : decode cX13_knownBy 62 = .ok (.ixor, 1) := by decide +kernel
theorem dX13_knownBy_63 : decode cX13_knownBy 63 = .ok (.iload_n 3, 1) := by decide +kernel
theorem dX13_knownBy_64 : decode cX13_knownBy 64 = .ok (.iand, 1) := by decide +kernel
theorem dX13_knownBy_65 : decode cX13_knownBy 65 = .ok (.ifCond .ne 7, 3) := by decide +kernel
theorem dX13_knownBy_68 : decode cX13_knownBy 68 = .ok (.iconst 1, 1) := by decide +kernel
theorem dX13_knownBy_69 : decode cX13_knownBy 69 = .ok (.goto 4, 3) := by decide +kernel
theorem dX13_knownBy_72 : decode cX13_knownBy 72 = .ok (.iconst 0, 1) := by decide +kernel
theorem dX13_knownBy_73 : decode cX13_knownBy 73 = .ok (.istore 8, 2) := by decide +kernel
theorem dX13_knownBy_75 : decode cX13_knownBy 75 = .ok (.iload 6, 2) := by decide +kernel
theorem dX13_knownBy_77 : decode cX13_knownBy 77 = .ok (.ifCond .eq 22, 3) := by decide +kernel
theorem dX13_knownBy_80 : decode cX13_knownBy 80 = .ok (.iload 8, 2) := by decide +kernel
theorem dX13_knownBy_82 : decode cX13_knownBy 82 = .ok (.ifCond .eq 13, 3) := by decide +kernel
theorem dX13_knownBy_85 : decode cX13_knownBy 85 = .ok (.iload_n 2, 1) := by decide +kernel
theorem dX13_knownBy_86 : decode cX13_knownBy 86 = .ok (.iload 7, 2) := by decide +kernel
theorem dX13_knownBy_88 : decode cX13_knownBy 88 = .ok (.ishr, 1) := by decide +kernel
theorem dX13_knownBy_89 : decode cX13_knownBy 89 = .ok (.iconst 1, 1) := by decide +kernel
theorem dX13_knownBy_90 : decode cX13_knownBy 90 = .ok (.iand, 1) := by decide +kernel
theorem dX13_knownBy_91 : decode cX13_knownBy 91 = .ok (.iconst 1, 1) := by decide +kernel
theorem dX13_knownBy_92 : decode cX13_knownBy 92 = .ok (.if_icmp .ne 7, 3) := by decide +kernel
theorem dX13_knownBy_95 : decode cX13_knownBy 95 = .ok (.iconst 1, 1) := by decide +kernel
theorem dX13_knownBy_96 : decode cX13_knownBy 96 = .ok (.goto 4, 3) := by decide +kernel
theorem dX13_knownBy_99 : decode cX13_knownBy 99 = .ok (.iconst 0, 1) := by decide +kernel
theorem dX13_knownBy_100 : decode cX13_knownBy 100 = .ok (.istore 6, 2) := by decide +kernel
theorem dX13_knownBy_102 : decode cX13_knownBy 102 = .ok (.iinc 7 1, 3) := by decide +kernel
theorem dX13_knownBy_105 : decode cX13_knownBy 105 = .ok (.goto (-72), 3) := by decide +kernel
theorem dX13_knownBy_108 : decode cX13_knownBy 108 = .ok (.iload 4, 2) := by decide +kernel
theorem dX13_knownBy_110 : decode cX13_knownBy 110 = .ok (.iload 6, 2) := by decide +kernel
theorem dX13_knownBy_112 : decode cX13_knownBy 112 = .ok (.ifCond .eq 10, 3) := by decide +kernel
theorem dX13_knownBy_115 : decode cX13_knownBy 115 = .ok (.iconst 1, 1) := by decide +kernel
theorem dX13_knownBy_116 : decode cX13_knownBy 116 = .ok (.iload 5, 2) := by decide +kernel
theorem dX13_knownBy_118 : decode cX13_knownBy 118 = .ok (.ishl, 1) := by decide +kernel
theorem dX13_knownBy_119 : decode cX13_knownBy 119 = .ok (.goto 4, 3) := by decide +kernel
theorem dX13_knownBy_122 : decode cX13_knownBy 122 = .ok (.iconst 0, 1) := by decide +kernel
theorem dX13_knownBy_123 : decode cX13_knownBy 123 = .ok (.ior, 1) := by decide +kernel
theorem dX13_knownBy_124 : decode cX13_knownBy 124 = .ok (.istore 4, 2) := by decide +kernel
theorem dX13_knownBy_126 : decode cX13_knownBy 126 = .ok (.iinc 5 1, 3) := by decide +kernel
theorem dX13_knownBy_129 : decode cX13_knownBy 129 = .ok (.goto (-113), 3) := by decide +kernel
theorem dX13_knownBy_132 : decode cX13_knownBy 132 = .ok (.iload 4, 2) := by decide +kernel
theorem dX13_knownBy_134 : decode cX13_knownBy 134 = .ok (.ireturn, 1) := by decide +kernel
set_option maxRecDepth 20000 in
theorem ggX13_knownByAll_X13_experts : GoodIn wsX13_knownByAll wsX13_experts := goodIn_r _ [5, 6, 12, 13, 14, 15, 16, 17, 18, 19, 20, 21, 22, 23, 24, 25, 26, 27, 28, 29, 30, 31, 32, 33, 34, 35, 36, 37, 38, 39, 40, 41, 42, 43, 44, 45, 46, 47, 48, 49, 50, 51, 52] (by decide +kernel) (by decide +kernel)
set_option maxRecDepth 20000 in
theorem gX13_knownByAll_X13_experts : GoodIn wsX13_knownByAll (wsV RX13 436 RX13 yX13_experts wsX13_experts) := goodIn_app (goodIn_of _ (by decide +kernel)) ggX13_knownByAll_X13_experts
set_option maxRecDepth 20000 in
theorem ggX13_knownByAll_X13_knownBy : GoodIn wsX13_knownByAll wsX13_knownBy := goodIn_r _ [10, 6, 11, 12, 13, 14, 15, 16, 17, 18, 19, 20, 21, 22, 23, 24, 25, 26, 27, 28, 29, 30, 31, 32, 33, 34, 35, 36, 37, 38, 39, 40, 41, 42, 43, 44, 45, 46, 47, 48, 49, 50, 51, 52] (by decide +kernel) (by decide +kernel)
set_option maxRecDepth 20000 in
theorem gX13_knownByAll_X13_knownBy : GoodIn wsX13_knownByAll (wsV RX13 439 RX13 yX13_knownBy wsX13_knownBy) := goodIn_app (goodIn_of _ (by decide +kernel)) ggX13_knownByAll_X13_knownBy
theorem dX13_knownByAll_0 : decode cX13_knownByAll 0 = .ok (.iload_n 1, 1) := by decide +kernel
theorem dX13_knownByAll_1 : decode cX13_knownByAll 1 = .ok (.istore_n 2, 1) := by decide +kernel
theorem dX13_knownByAll_2 : decode cX13_knownByAll 2 = .ok (.iconst 0, 1) := by decide +kernel
theorem dX13_knownByAll_3 : decode cX13_knownByAll 3 = .ok (.istore_n 3, 1) := by decide +kernel
theorem dX13_knownByAll_4 : decode cX13_knownByAll 4 = .ok (.iload_n 3, 1) := by decide +kernel
theorem dX13_knownByAll_5 : decode cX13_knownByAll 5 = .ok (.aload_n 0, 1) := by decide +kernel
theorem dX13_knownByAll_6 : decode cX13_knownByAll 6 = .ok (.invokevirtual 436, 3) := by decide +kernel
theorem dX13_knownByAll_9 : decode cX13_knownByAll 9 = .ok (.if_icmp .ge 18, 3) := by decide +kernel
theorem dX13_knownByAll_12 : decode cX13_knownByAll 12 = .ok (.iload_n 2, 1) := by decide +kernel
theorem dX13_knownByAll_13 : decode cX13_knownByAll 13 = .ok (.aload_n 0, 1) := by decide +kernel
theorem dX13_knownByAll_14 : decode cX13_knownByAll 14 = .ok (.iload_n 3, 1) := by decide +kernel
theorem dX13_knownByAll_15 : decode cX13_knownByAll 15 = .ok (.iload_n 1, 1) := by decide +kernel
theorem dX13_knownByAll_16 : decode cX13_knownByAll 16 = .ok (.invokevirtual 439, 3) := by decide +kernel
theorem dX13_knownByAll_19 : decode cX13_knownByAll 19 = .ok (.iand, 1) := by decide +kernel
theorem dX13_knownByAll_20 : decode cX13_knownByAll 20 = .ok (.istore_n 2, 1) := by decide +kernel
theorem dX13_knownByAll_21 : decode cX13_knownByAll 21 = .ok (.iinc 3 1, 3) := by decide +kernel
theorem dX13_knownByAll_24 : decode cX13_knownByAll 24 = .ok (.goto (-20), 3) := by decide +kernel
theorem dX13_knownByAll_27 : decode cX13_knownByAll 27 = .ok (.iload_n 2, 1) := by decide +kernel
theorem dX13_knownByAll_28 : decode cX13_knownByAll 28 = .ok (.ireturn, 1) := by decide +kernel
set_option maxRecDepth 20000 in
theorem ggX13_knows_X13_experts : GoodIn wsX13_knows wsX13_experts := goodIn_r _ [6, 7, 20, 21, 22, 23, 24, 25, 26, 27, 28, 29, 30, 31, 32, 33, 34, 35, 36, 37, 38, 39, 40, 41, 42, 43, 44, 45, 46, 47, 48, 49, 50, 51, 52, 53, 54, 55, 56, 57, 58, 59, 60] (by decide +kernel) (by decide +kernel)
set_option maxRecDepth 20000 in
theorem gX13_knows_X13_experts : GoodIn wsX13_knows (wsV RX13 436 RX13 yX13_experts wsX13_experts) := goodIn_app (goodIn_of _ (by decide +kernel)) ggX13_knows_X13_experts
set_option maxRecDepth 20000 in
theorem ggX13_knows_X13_within : GoodIn wsX13_knows wsX13_within := goodIn_r _ [10] (by decide +kernel) (by decide +kernel)
set_option maxRecDepth 20000 in
theorem gX13_knows_X13_within : GoodIn wsX13_knows (va_wsS RX13 231 yX13_within wsX13_within) := goodIn_app (goodIn_of _ (by decide +kernel)) ggX13_knows_X13_within
set_option maxRecDepth 20000 in
theorem ggX13_knows_X13_areThere : GoodIn wsX13_knows wsX13_areThere := goodIn_r _ [14, 15, 8, 9, 5, 10, 20, 21, 22, 23, 24, 25, 26, 27, 28, 29, 30, 31, 32, 33, 34, 35, 36, 37, 38, 39, 40, 41, 42, 43, 44, 45, 46, 47, 48, 49, 50, 51, 52, 53, 54, 55, 56, 57, 58, 59, 60] (by decide +kernel) (by decide +kernel)
set_option maxRecDepth 20000 in
theorem gX13_knows_X13_areThere : GoodIn wsX13_knows (wsV RX13 421 RX13 yX13_areThere wsX13_areThere) := goodIn_app (goodIn_of _ (by decide +kernel)) ggX13_knows_X13_areThere
set_option maxRecDepth 20000 in
theorem ggX13_knows_X13_knownBy : GoodIn wsX13_knows wsX13_knownBy := goodIn_r _ [19, 7, 15, 20, 21, 22, 23, 24, 25, 26, 27, 28, 29, 30, 31, 32, 33, 34, 35, 36, 37, 38, 39, 40, 41, 42, 43, 44, 45, 46, 47, 48, 49, 50, 51, 52, 53, 54, 55, 56, 57, 58, 59, 60] (by decide +kernel) (by decide +kernel)
set_option maxRecDepth 20000 in
theorem gX13_knows_X13_knownBy : GoodIn wsX13_knows (wsV RX13 439 RX13 yX13_knownBy wsX13_knownBy) := goodIn_app (goodIn_of _ (by decide +kernel)) ggX13_knows_X13_knownBy
theorem dX13_knows_0 : decode cX13_knows 0 = .ok (.aload_n 0, 1) := by decide +kernel
theorem dX13_knows_1 : decode cX13_knows 1 = .ok (.iconst 0, 1) := by decide +kernel
theorem dX13_knows_2 : decode cX13_knows 2 = .ok (.putfield 1, 3) := by decide +kernel
theorem dX13_knows_5 : decode cX13_knows 5 = .ok (.iload_n 1, 1) := by decide +kernel
theorem dX13_knows_6 : decode cX13_knows 6 = .ok (.iconst 0, 1) := by decide +kernel
theorem dX13_knows_7 : decode cX13_knows 7 = .ok (.aload_n 0, 1) := by decide +kernel
theorem dX13_knows_8 : decode cX13_knows 8 = .ok (.invokevirtual 436, 3) := by decide +kernel
theorem dX13_knows_11 : decode cX13_knows 11 = .ok (.iconst 1, 1) := by decide +kernel
theorem dX13_knows_12 : decode cX13_knows 12 = .ok (.isub, 1) := by decide +kernel
theorem dX13_knows_13 : decode cX13_knows 13 = .ok (.invokestatic 231, 3) := by decide +kernel
theorem dX13_knows_16 : decode cX13_knows 16 = .ok (.ifCond .eq 20, 3) := by decide +kernel
theorem dX13_knows_19 : decode cX13_knows 19 = .ok (.aload_n 0, 1) := by decide +kernel
theorem dX13_knows_20 : decode cX13_knows 20 = .ok (.iload_n 2, 1) := by decide +kernel
theorem dX13_knows_21 : decode cX13_knows 21 = .ok (.invokevirtual 421, 3) := by decide +kernel
theorem dX13_knows_24 : decode cX13_knows 24 = .ok (.ifCond .eq 12, 3) := by decide +kernel
theorem dX13_knows_27 : decode cX13_knows 27 = .ok (.aload_n 0, 1) := by decide +kernel
theorem dX13_knows_28 : decode cX13_knows 28 = .ok (.iload_n 1, 1) := by decide +kernel
theorem dX13_knows_29 : decode cX13_knows 29 = .ok (.iload_n 2, 1) := by decide +kernel
theorem dX13_knows_30 : decode cX13_knows 30 = .ok (.invokevirtual 439, 3) := by decide +kernel
theorem dX13_knows_33 : decode cX13_knows 33 = .ok (.goto 4, 3) := by decide +kernel
theorem dX13_knows_36 : decode cX13_knows 36 = .ok (.iconst (-1), 1) := by decide +kernel
theorem dX13_knows_37 : decode cX13_knows 37 = .ok (.ireturn, 1) := by decide +kernel
set_option maxRecDepth 20000 in
theorem ggX13_depth_X13_areThere : GoodIn wsX13_depth wsX13_areThere := goodIn_r _ [6, 7, 8, 9, 5, 10, 24, 25, 26, 27, 28, 29, 30, 31, 32, 33, 34, 35, 36, 37, 38, 39, 40, 41, 42, 43, 44, 45, 46, 47, 48, 49, 50, 51, 52, 53, 54, 55, 56, 57, 58, 59, 60, 61, 62, 63, 64] (by decide +kernel) (by decide +kernel)
set_option maxRecDepth 20000 in
theorem gX13_depth_X13_areThere : GoodIn wsX13_depth (wsV RX13 421 RX13 yX13_areThere wsX13_areThere) := goodIn_app (goodIn_of _ (by decide +kernel)) ggX13_depth_X13_areThere
set_option maxRecDepth 20000 in
theorem ggX13_depth_X13_within : GoodIn wsX13_depth wsX13_within := goodIn_r _ [10] (by decide +kernel) (by decide +kernel)
set_option maxRecDepth 20000 in
theorem gX13_depth_X13_within : GoodIn wsX13_depth (va_wsS RX13 231 yX13_within wsX13_within) := goodIn_app (goodIn_of _ (by decide +kernel)) ggX13_depth_X13_within
set_option maxRecDepth 20000 in
theorem ggX13_depth_X13_knownByAll : GoodIn wsX13_depth wsX13_knownByAll := goodIn_r _ [14, 15, 16, 17, 5, 18, 19, 20, 21, 22, 23, 7, 24, 25, 26, 27, 28, 29, 30, 31, 32, 33, 34, 35, 36, 37, 38, 39, 40, 41, 42, 43, 44, 45, 46, 47, 48, 49, 50, 51, 52, 53, 54, 55, 56, 57, 58, 59, 60, 61, 62, 63, 64] (by decide +kernel) (by decide +kernel)
set_option maxRecDepth 20000 in
theorem gX13_depth_X13_knownByAll : GoodIn wsX13_depth (wsV RX13 442 RX13 yX13_knownByAll wsX13_knownByAll) := goodIn_app (goodIn_of _ (by decide +kernel)) ggX13_depth_X13_knownByAll
theorem dX13_depth_0 : decode cX13_depth 0 = .ok (.aload_n 0, 1) := by decide +kernel
theorem dX13_depth_1 : decode cX13_depth 1 = .ok (.iconst 0, 1) := by decide +kernel
theorem dX13_depth_2 : decode cX13_depth 2 = .ok (.putfield 1, 3) := by decide +kernel
theorem dX13_depth_5 : decode cX13_depth 5 = .ok (.aload_n 0, 1) := by decide +kernel
theorem dX13_depth_6 : decode cX13_depth 6 = .ok (.iload_n 1, 1) := by decide +kernel
theorem dX13_depth_7 : decode cX13_depth 7 = .ok (.invokevirtual 421, 3) := by decide +kernel
theorem dX13_depth_10 : decode cX13_depth 10 = .ok (.ifCond .eq 13, 3) := by decide +kernel
theorem dX13_depth_13 : decode cX13_depth 13 = .ok (.iload_n 2, 1) := by decide +kernel
theorem dX13_depth_14 : decode cX13_depth 14 = .ok (.iconst 1, 1) := by decide +kernel
theorem dX13_depth_15 : decode cX13_depth 15 = .ok (.bipush 9, 2) := by decide +kernel
theorem dX13_depth_17 : decode cX13_depth 17 = .ok (.invokestatic 231, 3) := by decide +kernel
theorem dX13_depth_20 : decode cX13_depth 20 = .ok (.ifCond .ne 5, 3) := by decide +kernel
theorem dX13_depth_23 : decode cX13_depth 23 = .ok (.iconst (-1), 1) := by decide +kernel
theorem dX13_depth_24 : decode cX13_depth 24 = .ok (.ireturn, 1) := by decide +kernel
theorem dX13_depth_25 : decode cX13_depth 25 = .ok (.iload_n 1, 1) := by decide +kernel
theorem dX13_depth_26 : decode cX13_depth 26 = .ok (.istore_n 3, 1) := by decide +kernel
theorem dX13_depth_27 : decode cX13_depth 27 = .ok (.iconst 0, 1) := by decide +kernel
theorem dX13_depth_28 : decode cX13_depth 28 = .ok (.istore 4, 2) := by decide +kernel
theorem dX13_depth_30 : decode cX13_depth 30 = .ok (.iload 4, 2) := by decide +kernel
theorem dX13_depth_32 : decode cX13_depth 32 = .ok (.iload_n 2, 1) := by decide +kernel
theorem dX13_depth_33 : decode cX13_depth 33 = .ok (.if_icmp .ge 15, 3) := by decide +kernel
theorem dX13_depth_36 : decode cX13_depth 36 = .ok (.aload_n 0, 1) := by decide +kernel
theorem dX13_depth_37 : decode cX13_depth 37 = .ok (.iload_n 3, 1) := by decide +kernel
theorem dX13_depth_38 : decode cX13_depth 38 = .ok (.invokevirtual 442, 3) := by decide +kernel
theorem dX13_depth_41 : decode cX13_depth 41 = .ok (.istore_n 3, 1) := by decide +kernel
theorem dX13_depth_42 : decode cX13_depth 42 = .ok (.iinc 4 1, 3) := by decide +kernel
theorem dX13_depth_45 : decode cX13_depth 45 = .ok (.goto (-15), 3) := by decide +kernel
theorem dX13_depth_48 : decode cX13_depth 48 = .ok (.iload_n 3, 1) := by decide +kernel
theorem dX13_depth_49 : decode cX13_depth 49 = .ok (.ireturn, 1) := by decide +kernel
set_option maxRecDepth 20000 in
theorem ggX13_common_X13_areThere : GoodIn wsX13_common wsX13_areThere := goodIn_r _ [6, 7, 8, 9, 5, 10, 24, 25, 26, 27, 28, 29, 30, 31, 32, 33, 34, 35, 36, 37, 38, 39, 40, 41, 42, 43, 44, 45, 46, 47, 48, 49, 50, 51, 52, 53, 54, 55, 56, 57, 58, 59, 60, 61, 62, 63, 64] (by decide +kernel) (by decide +kernel)
set_option maxRecDepth 20000 in
theorem gX13_common_X13_areThere : GoodIn wsX13_common (wsV RX13 421 RX13 yX13_areThere wsX13_areThere) := goodIn_app (goodIn_of _ (by decide +kernel)) ggX13_common_X13_areThere
set_option maxRecDepth 20000 in
theorem ggX13_common_X13_knownByAll : GoodIn wsX13_common wsX13_knownByAll := goodIn_r _ [14, 15, 16, 17, 5, 18, 19, 20, 21, 22, 23, 7, 24, 25, 26, 27, 28, 29, 30, 31, 32, 33, 34, 35, 36, 37, 38, 39, 40, 41, 42, 43, 44, 45, 46, 47, 48, 49, 50, 51, 52, 53, 54, 55, 56, 57, 58, 59, 60, 61, 62, 63, 64] (by decide +kernel) (by decide +kernel)
set_option maxRecDepth 20000 in
theorem gX13_common_X13_knownByAll : GoodIn wsX13_common (wsV RX13 442 RX13 yX13_knownByAll wsX13_knownByAll) := goodIn_app (goodIn_of _ (by decide +kernel)) ggX13_common_X13_knownByAll
theorem dX13_common_0 : decode cX13_common 0 = .ok (.aload_n 0, 1) := by decide +kernel
theorem dX13_common_1 : decode cX13_common 1 = .ok (.iconst 0, 1) := by decide +kernel
theorem dX13_common_2 : decode cX13_common 2 = .ok (.putfield 1, 3) := by decide +kernel
theorem dX13_common_5 : decode cX13_common 5 = .ok (.aload_n 0, 1) := by decide +kernel
theorem dX13_common_6 : decode cX13_common 6 = .ok (.iload_n 1, 1) := by decide +kernel
theorem dX13_common_7 : decode cX13_common 7 = .ok (.invokevirtual 421, 3) := by decide +kernel
theorem dX13_common_10 : decode cX13_common 10 = .ok (.ifCond .ne 5, 3) := by decide +kernel
theorem dX13_common_13 : decode cX13_common 13 = .ok (.iconst (-1), 1) := by decide +kernel
theorem dX13_common_14 : decode cX13_common 14 = .ok (.ireturn, 1) := by decide +kernel
theorem dX13_common_15 : decode cX13_common 15 = .ok (.iload_n 1, 1) := by decide +kernel
theorem dX13_common_16 : decode cX13_common 16 = .ok (.istore_n 2, 1) := by decide +kernel
theorem dX13_common_17 : decode cX13_common 17 = .ok (.iconst 0, 1) := by decide +kernel
theorem dX13_common_18 : decode cX13_common 18 = .ok (.istore_n 3, 1) := by decide +kernel
theorem dX13_common_19 : decode cX13_common 19 = .ok (.iload_n 3, 1) := by decide +kernel
theorem dX13_common_20 : decode cX13_common 20 = .ok (.bipush 8, 2) := by decide +kernel
theorem dX13_common_22 : decode cX13_common 22 = .ok (.if_icmp .gt 15, 3) := by decide +kernel
theorem dX13_common_25 : decode cX13_common 25 = .ok (.aload_n 0, 1) := by decide +kernel
theorem dX13_common_26 : decode cX13_common 26 = .ok (.iload_n 2, 1) := by decide +kernel
theorem dX13_common_27 : decode cX13_common 27 = .ok (.invokevirtual 442, 3) := by decide +kernel
theorem dX13_common_30 : decode cX13_common 30 = .ok (.istore_n 2, 1) := by decide +kernel
theorem dX13_common_31 : decode cX13_common 31 = .ok (.iinc 3 1, 3) := by decide +kernel
theorem dX13_common_34 : decode cX13_common 34 = .ok (.goto (-15), 3) := by decide +kernel
theorem dX13_common_37 : decode cX13_common 37 = .ok (.iload_n 2, 1) := by decide +kernel
theorem dX13_common_38 : decode cX13_common 38 = .ok (.ireturn, 1) := by decide +kernel
theorem dX13_getsBy_0 : decode cX13_getsBy 0 = .ok (.iload_n 1, 1) := by decide +kernel
theorem dX13_getsBy_1 : decode cX13_getsBy 1 = .ok (.ifCond .eq 18, 3) := by decide +kernel
theorem dX13_getsBy_4 : decode cX13_getsBy 4 = .ok (.iload_n 0, 1) := by decide +kernel
theorem dX13_getsBy_5 : decode cX13_getsBy 5 = .ok (.iload 4, 2) := by decide +kernel
theorem dX13_getsBy_7 : decode cX13_getsBy 7 = .ok (.ifCond .eq 7, 3) := by decide +kernel
theorem dX13_getsBy_10 : decode cX13_getsBy 10 = .ok (.iload_n 2, 1) := by decide +kernel
theorem dX13_getsBy_11 : decode cX13_getsBy 11 = .ok (.goto 4, 3) := by decide +kernel
theorem dX13_getsBy_14 : decode cX13_getsBy 14 = .ok (.iload_n 3, 1) := by decide +kernel
theorem dX13_getsBy_15 : decode cX13_getsBy 15 = .ok (.isub, 1) := by decide +kernel
theorem dX13_getsBy_16 : decode cX13_getsBy 16 = .ok (.goto 4, 3) := by decide +kernel
theorem dX13_getsBy_19 : decode cX13_getsBy 19 = .ok (.iconst 0, 1) := by decide +kernel
theorem dX13_getsBy_20 : decode cX13_getsBy 20 = .ok (.ireturn, 1) := by decide +kernel
set_option maxRecDepth 20000 in
theorem ggX13_isRest_X13_getsBy : GoodIn wsX13_isRest wsX13_getsBy := goodIn_r _ [4] (by decide +kernel) (by decide +kernel)
set_option maxRecDepth 20000 in
theorem gX13_isRest_X13_getsBy : GoodIn wsX13_isRest (va_wsS RX13 445 yX13_getsBy wsX13_getsBy) := goodIn_app (goodIn_of _ (by decide +kernel)) ggX13_isRest_X13_getsBy
theorem dX13_isRest_0 : decode cX13_isRest 0 = .ok (.iload_n 0, 1) := by decide +kernel
theorem dX13_isRest_1 : decode cX13_isRest 1 = .ok (.iload_n 3, 1) := by decide +kernel
theorem dX13_isRest_2 : decode cX13_isRest 2 = .ok (.iload 4, 2) := by decide +kernel
theorem dX13_isRest_4 : decode cX13_isRest 4 = .ok (.if_icmp .lt 7, 3) := by decide +kernel
theorem dX13_isRest_7 : decode cX13_isRest 7 = .ok (.iconst 1, 1) := by decide +kernel
theorem dX13_isRest_8 : decode cX13_isRest 8 = .ok (.goto 4, 3) := by decide +kernel
theorem dX13_isRest_11 : decode cX13_isRest 11 = .ok (.iconst 0, 1) := by decide +kernel
theorem dX13_isRest_12 : decode cX13_isRest 12 = .ok (.iload_n 3, 1) := by decide +kernel
theorem dX13_isRest_13 : decode cX13_isRest 13 = .ok (.iload 4, 2) := by decide +kernel
theorem dX13_isRest_15 : decode cX13_isRest 15 = .ok (.iload_n 2, 1) := by decide +kernel
theorem dX13_isRest_16 : decode cX13_isRest 16 = .ok (.invokestatic 445, 3) := by decide +kernel
theorem dX13_isRest_19 : decode cX13_isRest 19 = .ok (.istore 5, 2) := by decide +kernel
theorem dX13_isRest_21 : decode cX13_isRest 21 = .ok (.iload_n 1, 1) := by decide +kernel
theorem dX13_isRest_22 : decode cX13_isRest 22 = .ok (.iload 4, 2) := by decide +kernel
theorem dX13_isRest_24 : decode cX13_isRest 24 = .ok (.iload_n 3, 1) := by decide +kernel
theorem dX13_isRest_25 : decode cX13_isRest 25 = .ok (.if_icmp .le 7, 3) := by decide +kernel
theorem dX13_isRest_28 : decode cX13_isRest 28 = .ok (.iconst 1, 1) := by decide +kernel
theorem dX13_isRest_29 : decode cX13_isRest 29 = .ok (.goto 4, 3) := by decide +kernel
theorem dX13_isRest_32 : decode cX13_isRest 32 = .ok (.iconst 0, 1) := by decide +kernel
theorem dX13_isRest_33 : decode cX13_isRest 33 = .ok (.iload 4, 2) := by decide +kernel
theorem dX13_isRest_35 : decode cX13_isRest 35 = .ok (.iload_n 3, 1) := by decide +kernel
theorem dX13_isRest_36 : decode cX13_isRest 36 = .ok (.iload_n 2, 1) := by decide +kernel
theorem dX13_isRest_37 : decode cX13_isRest 37 = .ok (.invokestatic 445, 3) := by decide +kernel
theorem dX13_isRest_40 : decode cX13_isRest 40 = .ok (.istore 6, 2) := by decide +kernel
theorem dX13_isRest_42 : decode cX13_isRest 42 = .ok (.iconst 1, 1) := by decide +kernel
theorem dX13_isRest_43 : decode cX13_isRest 43 = .ok (.istore 7, 2) := by decide +kernel
theorem dX13_isRest_45 : decode cX13_isRest 45 = .ok (.iconst 0, 1) := by decide +kernel
theorem dX13_isRest_46 : decode cX13_isRest 46 = .ok (.istore 8, 2) := by decide +kernel
theorem dX13_isRest_48 : decode cX13_isRest 48 = .ok (.iload 8, 2) := by decide +kernel
theorem dX13_isRest_50 : decode cX13_isRest 50 = .ok (.bipush 10, 2) := by decide +kernel
theorem dX13_isRest_52 : decode cX13_isRest 52 = .ok (.if_icmp .ge 71, 3) := by decide +kernel
theorem dX13_isRest_55 : decode cX13_isRest 55 = .ok (.iload 7, 2) := by decide +kernel
theorem dX13_isRest_57 : decode cX13_isRest 57 = .ok (.ifCond .eq 57, 3) := by decide +kernel
theorem dX13_isRest_60 : decode cX13_isRest 60 = .ok (.iload_n 0, 1) := by decide +kernel
theorem dX13_isRest_61 : decode cX13_isRest 61 = .ok (.iload 8, 2) := by decide +kernel
theorem dX13_isRest_63 : decode cX13_isRest 63 = .ok (.iload 4, 2) := by decide +kernel
theorem dX13_isRest_65 : decode cX13_isRest 65 = .ok (.if_icmp .lt 7, 3) := by decide +kernel
theorem dX13_isRest_68 : decode cX13_isRest 68 = .ok (.iconst 1, 1) := by decide +kernel
theorem dX13_isRest_69 : decode cX13_isRest 69 = .ok (.goto 4, 3) := by decide +kernel
theorem dX13_isRest_72 : decode cX13_isRest 72 = .ok (.iconst 0, 1) := by decide +kernel
theorem dX13_isRest_73 : decode cX13_isRest 73 = .ok (.iload 8, 2) := by decide +kernel
theorem dX13_isRest_75 : decode cX13_isRest 75 = .ok (.iload 4, 2) := by decide +kernel
theorem dX13_isRest_77 : decode cX13_isRest 77 = .ok (.iload_n 2, 1) := by decide +kernel
theorem dX13_isRest_78 : decode cX13_isRest 78 = .ok (.invokestatic 445, 3) := by decide +kernel
theorem dX13_isRest_81 : decode cX13_isRest 81 = .ok (.iload 5, 2) := by decide +kernel
theorem dX13_isRest_83 : decode cX13_isRest 83 = .ok (.if_icmp .gt 31, 3) := by decide +kernel
theorem dX13_isRest_86 : decode cX13_isRest 86 = .ok (.iload_n 1, 1) := by decide +kernel
theorem dX13_isRest_87 : decode cX13_isRest 87 = .ok (.iload 8, 2) := by decide +kernel
theorem dX13_isRest_89 : decode cX13_isRest 89 = .ok (.iload_n 3, 1) := by decide +kernel
theorem dX13_isRest_90 : decode cX13_isRest 90 = .ok (.if_icmp .le 7, 3) := by decide +kernel
theorem dX13_isRest_93 : decode cX13_isRest 93 = .ok (.iconst 1, 1) := by decide +kernel
theorem dX13_isRest_94 : decode cX13_isRest 94 = .ok (.goto 4, 3) := by decide +kernel
theorem dX13_isRest_97 : decode cX13_isRest 97 = .ok (.iconst 0, 1) := by decide +kernel
theorem dX13_isRest_98 : decode cX13_isRest 98 = .ok (.iload 8, 2) := by decide +kernel
theorem dX13_isRest_100 : decode cX13_isRest 100 = .ok (.iload_n 3, 1) := by decide +kernel
theorem dX13_isRest_101 : decode cX13_isRest 101 = .ok (.iload_n 2, 1) := by decide +kernel
theorem dX13_isRest_102 : decode cX13_isRest 102 = .ok (.invokestatic 445, 3) := by decide +kernel
theorem dX13_isRest_105 : decode cX13_isRest 105 = .ok (.iload 6, 2) := by decide +kernel
theorem dX13_isRest_107 : decode cX13_isRest 107 = .ok (.if_icmp .gt 7, 3) := by decide +kernel
theorem dX13_isRest_110 : decode cX13_isRest 110 = .ok (.iconst 1, 1) := by decide +kernel
theorem dX13_isRest_111 : decode cX13_isRest 111 = .ok (.goto 4, 3) := by decide +kernel
theorem dX13_isRest_114 : decode cX13_isRest 114 = .ok (.iconst 0, 1) := by decide +kernel
theorem dX13_isRest_115 : decode cX13_isRest 115 = .ok (.istore 7, 2) := by decide +kernel
theorem dX13_isRest_117 : decode cX13_isRest 117 = .ok (.iinc 8 1, 3) := by decide +kernel
theorem dX13_isRest_120 : decode cX13_isRest 120 = .ok (.goto (-72), 3) := by decide +kernel
theorem dX13_isRest_123 : decode cX13_isRest 123 = .ok (.iload 7, 2) := by decide +kernel
theorem dX13_isRest_125 : decode cX13_isRest 125 = .ok (.ireturn, 1) := by decide +kernel
set_option maxRecDepth 20000 in
theorem ggX13_rests_X13_within : GoodIn wsX13_rests wsX13_within := goodIn_r _ [5] (by decide +kernel) (by decide +kernel)
set_option maxRecDepth 20000 in
theorem gX13_rests_X13_within : GoodIn wsX13_rests (va_wsS RX13 231 yX13_within wsX13_within) := goodIn_app (goodIn_of _ (by decide +kernel)) ggX13_rests_X13_within
set_option maxRecDepth 20000 in
theorem ggX13_rests_X13_isRest : GoodIn wsX13_rests wsX13_isRest := goodIn_r _ [8, 9, 10, 4, 11] (by decide +kernel) (by decide +kernel)
set_option maxRecDepth 20000 in
theorem gX13_rests_X13_isRest : GoodIn wsX13_rests (va_wsS RX13 449 yX13_isRest wsX13_isRest) := goodIn_app (goodIn_of _ (by decide +kernel)) ggX13_rests_X13_isRest
theorem dX13_rests_0 : decode cX13_rests 0 = .ok (.iload_n 1, 1) := by decide +kernel
theorem dX13_rests_1 : decode cX13_rests 1 = .ok (.iconst 0, 1) := by decide +kernel
theorem dX13_rests_2 : decode cX13_rests 2 = .ok (.bipush 9, 2) := by decide +kernel
theorem dX13_rests_4 : decode cX13_rests 4 = .ok (.invokestatic 231, 3) := by decide +kernel
theorem dX13_rests_7 : decode cX13_rests 7 = .ok (.ifCond .eq 23, 3) := by decide +kernel
theorem dX13_rests_10 : decode cX13_rests 10 = .ok (.iload_n 2, 1) := by decide +kernel
theorem dX13_rests_11 : decode cX13_rests 11 = .ok (.iconst 0, 1) := by decide +kernel
theorem dX13_rests_12 : decode cX13_rests 12 = .ok (.bipush 9, 2) := by decide +kernel
theorem dX13_rests_14 : decode cX13_rests 14 = .ok (.invokestatic 231, 3) := by decide +kernel
theorem dX13_rests_17 : decode cX13_rests 17 = .ok (.ifCond .eq 13, 3) := by decide +kernel
theorem dX13_rests_20 : decode cX13_rests 20 = .ok (.iload 4, 2) := by decide +kernel
theorem dX13_rests_22 : decode cX13_rests 22 = .ok (.iconst (-1), 1) := by decide +kernel
theorem dX13_rests_23 : decode cX13_rests 23 = .ok (.if_icmp .lt 7, 3) := by decide +kernel
theorem dX13_rests_26 : decode cX13_rests 26 = .ok (.iconst 1, 1) := by decide +kernel
theorem dX13_rests_27 : decode cX13_rests 27 = .ok (.goto 4, 3) := by decide +kernel
theorem dX13_rests_30 : decode cX13_rests 30 = .ok (.iconst 0, 1) := by decide +kernel
theorem dX13_rests_31 : decode cX13_rests 31 = .ok (.istore 5, 2) := by decide +kernel
theorem dX13_rests_33 : decode cX13_rests 33 = .ok (.iconst 0, 1) := by decide +kernel
theorem dX13_rests_34 : decode cX13_rests 34 = .ok (.istore 6, 2) := by decide +kernel
theorem dX13_rests_36 : decode cX13_rests 36 = .ok (.iconst (-1), 1) := by decide +kernel
theorem dX13_rests_37 : decode cX13_rests 37 = .ok (.istore 7, 2) := by decide +kernel
theorem dX13_rests_39 : decode cX13_rests 39 = .ok (.iconst 0, 1) := by decide +kernel
theorem dX13_rests_40 : decode cX13_rests 40 = .ok (.istore 8, 2) := by decide +kernel
theorem dX13_rests_42 : decode cX13_rests 42 = .ok (.iload 8, 2) := by decide +kernel
theorem dX13_rests_44 : decode cX13_rests 44 = .ok (.bipush 100, 2) := by decide +kernel
theorem dX13_rests_46 : decode cX13_rests 46 = .ok (.if_icmp .ge 68, 3) := by decide +kernel
theorem dX13_rests_49 : decode cX13_rests 49 = .ok (.iload 5, 2) := by decide +kernel
theorem dX13_rests_51 : decode cX13_rests 51 = .ok (.ifCond .eq 63, 3) := by decide +kernel
theorem dX13_rests_54 : decode cX13_rests 54 = .ok (.iload_n 1, 1) := by decide +kernel
theorem dX13_rests_55 : decode cX13_rests 55 = .ok (.iload_n 2, 1) := by decide +kernel
theorem dX13_rests_56 : decode cX13_rests 56 = .ok (.iload_n 3, 1) := by decide +kernel
theorem dX13_rests_57 : decode cX13_rests 57 = .ok (.iload 8, 2) := by decide +kernel
theorem dX13_rests_59 : decode cX13_rests 59 = .ok (.bipush 10, 2) := by decide +kernel
theorem dX13_rests_61 : decode cX13_rests 61 = .ok (.idiv, 1) := by decide +kernel
theorem dX13_rests_62 : decode cX13_rests 62 = .ok (.iload 8, 2) := by decide +kernel
theorem dX13_rests_64 : decode cX13_rests 64 = .ok (.bipush 10, 2) := by decide +kernel
theorem dX13_rests_66 : decode cX13_rests 66 = .ok (.irem, 1) := by decide +kernel
theorem dX13_rests_67 : decode cX13_rests 67 = .ok (.invokestatic 449, 3) := by decide +kernel
theorem dX13_rests_70 : decode cX13_rests 70 = .ok (.istore 9, 2) := by decide +kernel
theorem dX13_rests_72 : decode cX13_rests 72 = .ok (.iload 9, 2) := by decide +kernel
theorem dX13_rests_74 : decode cX13_rests 74 = .ok (.ifCond .eq 15, 3) := by decide +kernel
theorem dX13_rests_77 : decode cX13_rests 77 = .ok (.iload 6, 2) := by decide +kernel
theorem dX13_rests_79 : decode cX13_rests 79 = .ok (.iload 4, 2) := by decide +kernel
theorem dX13_rests_81 : decode cX13_rests 81 = .ok (.if_icmp .ne 8, 3) := by decide +kernel
theorem dX13_rests_84 : decode cX13_rests 84 = .ok (.iload 8, 2) := by decide +kernel
theorem dX13_rests_86 : decode cX13_rests 86 = .ok (.goto 5, 3) := by decide +kernel
theorem dX13_rests_89 : decode cX13_rests 89 = .ok (.iload 7, 2) := by decide +kernel
theorem dX13_rests_91 : decode cX13_rests 91 = .ok (.istore 7, 2) := by decide +kernel
theorem dX13_rests_93 : decode cX13_rests 93 = .ok (.iload 6, 2) := by decide +kernel
theorem dX13_rests_95 : decode cX13_rests 95 = .ok (.iload 9, 2) := by decide +kernel
theorem dX13_rests_97 : decode cX13_rests 97 = .ok (.ifCond .eq 7, 3) := by decide +kernel
theorem dX13_rests_100 : decode cX13_rests 100 = .ok (.iconst 1, 1) := by decide +kernel
theorem dX13_rests_101 : decode cX13_rests 101 = .ok (.goto 4, 3) := by decide +kernel
theorem dX13_rests_104 : decode cX13_rests 104 = .ok (.iconst 0, 1) := by decide +kernel
theorem dX13_rests_105 : decode cX13_rests 105 = .ok (.iadd, 1) := by decide +kernel
theorem dX13_rests_106 : decode cX13_rests 106 = .ok (.istore 6, 2) := by decide +kernel
theorem dX13_rests_108 : decode cX13_rests 108 = .ok (.iinc 8 1, 3) := by decide +kernel
theorem dX13_rests_111 : decode cX13_rests 111 = .ok (.goto (-69), 3) := by decide +kernel
theorem dX13_rests_114 : decode cX13_rests 114 = .ok (.aload_n 0, 1) := by decide +kernel
theorem dX13_rests_115 : decode cX13_rests 115 = .ok (.iload 5, 2) := by decide +kernel
theorem dX13_rests_117 : decode cX13_rests 117 = .ok (.ifCond .eq 17, 3) := by decide +kernel
theorem dX13_rests_120 : decode cX13_rests 120 = .ok (.iload 4, 2) := by decide +kernel
theorem dX13_rests_122 : decode cX13_rests 122 = .ok (.ifCond .lt 8, 3) := by decide +kernel
theorem dX13_rests_125 : decode cX13_rests 125 = .ok (.iload 7, 2) := by decide +kernel
theorem dX13_rests_127 : decode cX13_rests 127 = .ok (.ifCond .lt 7, 3) := by decide +kernel
theorem dX13_rests_130 : decode cX13_rests 130 = .ok (.iconst 0, 1) := by decide +kernel
theorem dX13_rests_131 : decode cX13_rests 131 = .ok (.goto 4, 3) := by decide +kernel
theorem dX13_rests_134 : decode cX13_rests 134 = .ok (.iconst 1, 1) := by decide +kernel
theorem dX13_rests_135 : decode cX13_rests 135 = .ok (.putfield 1, 3) := by decide +kernel
theorem dX13_rests_138 : decode cX13_rests 138 = .ok (.aload_n 0, 1) := by decide +kernel
theorem dX13_rests_139 : decode cX13_rests 139 = .ok (.getfield 1, 3) := by decide +kernel
theorem dX13_rests_142 : decode cX13_rests 142 = .ok (.ifCond .le 7, 3) := by decide +kernel
theorem dX13_rests_145 : decode cX13_rests 145 = .ok (.iconst 0, 1) := by decide +kernel
theorem dX13_rests_146 : decode cX13_rests 146 = .ok (.goto 15, 3) := by decide +kernel
theorem dX13_rests_149 : decode cX13_rests 149 = .ok (.iload 4, 2) := by decide +kernel
theorem dX13_rests_151 : decode cX13_rests 151 = .ok (.ifCond .ge 8, 3) := by decide +kernel
theorem dX13_rests_154 : decode cX13_rests 154 = .ok (.iload 6, 2) := by decide +kernel
theorem dX13_rests_156 : decode cX13_rests 156 = .ok (.goto 5, 3) := by decide +kernel
theorem dX13_rests_159 : decode cX13_rests 159 = .ok (.iload 7, 2) := by decide +kernel
theorem dX13_rests_161 : decode cX13_rests 161 = .ok (.ireturn, 1) := by decide +kernel
set_option maxRecDepth 20000 in
theorem ggX13_watches_X13_thieves : GoodIn wsX13_watches wsX13_thieves := goodIn_r _ [6, 7, 18, 19, 20, 21, 22, 23, 24, 25, 26, 27, 28, 29, 30, 31, 32, 33, 34, 35, 36, 37, 38, 39, 40, 41, 42, 43, 44, 45, 46, 47, 48, 49, 50, 51, 52, 53, 54, 55, 56, 57, 58] (by decide +kernel) (by decide +kernel)
set_option maxRecDepth 20000 in
theorem gX13_watches_X13_thieves : GoodIn wsX13_watches (wsV RX13 320 RX13 yX13_thieves wsX13_thieves) := goodIn_app (goodIn_of _ (by decide +kernel)) ggX13_watches_X13_thieves
set_option maxRecDepth 20000 in
theorem ggX13_watches_X13_bits : GoodIn wsX13_watches wsX13_bits := goodIn_r _ [10] (by decide +kernel) (by decide +kernel)
set_option maxRecDepth 20000 in
theorem gX13_watches_X13_bits : GoodIn wsX13_watches (va_wsS RX13 339 yX13_bits wsX13_bits) := goodIn_app (goodIn_of _ (by decide +kernel)) ggX13_watches_X13_bits
set_option maxRecDepth 20000 in
theorem ggX13_watches_X13_thiefOf : GoodIn wsX13_watches wsX13_thiefOf := goodIn_r _ [14, 7, 18, 19, 20, 21, 22, 23, 24, 25, 26, 27, 28, 29, 30, 31, 32, 33, 34, 35, 36, 37, 38, 39, 40, 41, 42, 43, 44, 45, 46, 47, 48, 49, 50, 51, 52, 53, 54, 55, 56, 57, 58] (by decide +kernel) (by decide +kernel)
set_option maxRecDepth 20000 in
theorem gX13_watches_X13_thiefOf : GoodIn wsX13_watches (wsV RX13 323 RX13 yX13_thiefOf wsX13_thiefOf) := goodIn_app (goodIn_of _ (by decide +kernel)) ggX13_watches_X13_thiefOf
set_option maxRecDepth 20000 in
theorem ggX13_watches_X13_watches : GoodIn wsX13_watches wsX13_watches := goodIn_r _ [0, 1, 2, 3, 4, 5, 6, 7, 8, 9, 10, 11, 12, 13, 14, 15, 16, 17, 18, 19, 20, 21, 22, 23, 24, 25, 26, 27, 28, 29, 30, 31, 32, 33, 34, 35, 36, 37, 38, 39, 40, 41, 42, 43, 44, 45, 46, 47, 48, 49, 50, 51, 52, 53, 54, 55, 56, 57, 58] (by decide +kernel) (by decide +kernel)
set_option maxRecDepth 20000 in
theorem gX13_watches_X13_watches : GoodIn wsX13_watches (wsV RX13 456 RX13 yX13_watches wsX13_watches) := goodIn_app (goodIn_of _ (by decide +kernel)) ggX13_watches_X13_watches
theorem dX13_watches_0 : decode cX13_watches 0 = .ok (.iload_n 1, 1) := by decide +kernel
theorem dX13_watches_1 : decode cX13_watches 1 = .ok (.aload_n 0, 1) := by decide +kernel
theorem dX13_watches_2 : decode cX13_watches 2 = .ok (.invokevirtual 320, 3) := by decide +kernel
theorem dX13_watches_5 : decode cX13_watches 5 = .ok (.if_icmp .ne 71, 3) := by decide +kernel
theorem dX13_watches_8 : decode cX13_watches 8 = .ok (.aload_n 0, 1) := by decide +kernel
theorem dX13_watches_9 : decode cX13_watches 9 = .ok (.getfield 453, 3) := by decide +kernel
theorem dX13_watches_12 : decode cX13_watches 12 = .ok (.ifCond .lt 39, 3) := by decide +kernel
theorem dX13_watches_15 : decode cX13_watches 15 = .ok (.iload_n 2, 1) := by decide +kernel
theorem dX13_watches_16 : decode cX13_watches 16 = .ok (.invokestatic 339, 3) := by decide +kernel
theorem dX13_watches_19 : decode cX13_watches 19 = .ok (.aload_n 0, 1) := by decide +kernel
theorem dX13_watches_20 : decode cX13_watches 20 = .ok (.getfield 453, 3) := by decide +kernel
theorem dX13_watches_23 : decode cX13_watches 23 = .ok (.invokestatic 339, 3) := by decide +kernel
theorem dX13_watches_26 : decode cX13_watches 26 = .ok (.if_icmp .lt 25, 3) := by decide +kernel
theorem dX13_watches_29 : decode cX13_watches 29 = .ok (.iload_n 2, 1) := by decide +kernel
theorem dX13_watches_30 : decode cX13_watches 30 = .ok (.invokestatic 339, 3) := by decide +kernel
theorem dX13_watches_33 : decode cX13_watches 33 = .ok (.aload_n 0, 1) := by decide +kernel
theorem dX13_watches_34 : decode cX13_watches 34 = .ok (.getfield 453, 3) := by decide +kernel
theorem dX13_watches_37 : decode cX13_watches 37 = .ok (.invokestatic 339, 3) := by decide +kernel
theorem dX13_watches_40 : decode cX13_watches 40 = .ok (.if_icmp .ne 15, 3) := by decide +kernel
theorem dX13_watches_43 : decode cX13_watches 43 = .ok (.iload_n 2, 1) := by decide +kernel
theorem dX13_watches_44 : decode cX13_watches 44 = .ok (.aload_n 0, 1) := by decide +kernel
theorem dX13_watches_45 : decode cX13_watches 45 = .ok (.getfield 453, 3) := by decide +kernel
theorem dX13_watches_48 : decode cX13_watches 48 = .ok (.if_icmp .ge 7, 3) := by decide +kernel
theorem dX13_watches_51 : decode cX13_watches 51 = .ok (.iconst 1, 1) := by decide +kernel
theorem dX13_watches_52 : decode cX13_watches 52 = .ok (.goto 4, 3) := by decide +kernel
theorem dX13_watches_55 : decode cX13_watches 55 = .ok (.iconst 0, 1) := by decide +kernel
theorem dX13_watches_56 : decode cX13_watches 56 = .ok (.istore 4, 2) := by decide +kernel
theorem dX13_watches_58 : decode cX13_watches 58 = .ok (.aload_n 0, 1) := by decide +kernel
theorem dX13_watches_59 : decode cX13_watches 59 = .ok (.iload 4, 2) := by decide +kernel
theorem dX13_watches_61 : decode cX13_watches 61 = .ok (.ifCond .eq 7, 3) := by decide +kernel
theorem dX13_watches_64 : decode cX13_watches 64 = .ok (.iload_n 2, 1) := by decide +kernel
theorem dX13_watches_65 : decode cX13_watches 65 = .ok (.goto 7, 3) := by decide +kernel
theorem dX13_watches_68 : decode cX13_watches 68 = .ok (.aload_n 0, 1) := by decide +kernel
theorem dX13_watches_69 : decode cX13_watches 69 = .ok (.getfield 453, 3) := by decide +kernel
theorem dX13_watches_72 : decode cX13_watches 72 = .ok (.putfield 453, 3) := by decide +kernel
theorem dX13_watches_75 : decode cX13_watches 75 = .ok (.return_, 1) := by decide +kernel
theorem dX13_watches_76 : decode cX13_watches 76 = .ok (.aload_n 0, 1) := by decide +kernel
theorem dX13_watches_77 : decode cX13_watches 77 = .ok (.iload_n 1, 1) := by decide +kernel
theorem dX13_watches_78 : decode cX13_watches 78 = .ok (.iconst 3, 1) := by decide +kernel
theorem dX13_watches_79 : decode cX13_watches 79 = .ok (.invokevirtual 323, 3) := by decide +kernel
theorem dX13_watches_82 : decode cX13_watches 82 = .ok (.istore 4, 2) := by decide +kernel
theorem dX13_watches_84 : decode cX13_watches 84 = .ok (.iload_n 3, 1) := by decide +kernel
theorem dX13_watches_85 : decode cX13_watches 85 = .ok (.ifCond .gt 10, 3) := by decide +kernel
theorem dX13_watches_88 : decode cX13_watches 88 = .ok (.iload 4, 2) := by decide +kernel
