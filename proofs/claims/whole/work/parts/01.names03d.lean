theorem dX12_kin_37 : decode cX12_kin 37 = .ok (.getfield 140, 3) := by decide +kernel
theorem dX12_kin_40 : decode cX12_kin 40 = .ok (.iload_n 3, 1) := by decide +kernel
theorem dX12_kin_41 : decode cX12_kin 41 = .ok (.iaload, 1) := by decide +kernel
theorem dX12_kin_42 : decode cX12_kin 42 = .ok (.ishr, 1) := by decide +kernel
theorem dX12_kin_43 : decode cX12_kin 43 = .ok (.iconst 1, 1) := by decide +kernel
theorem dX12_kin_44 : decode cX12_kin 44 = .ok (.iand, 1) := by decide +kernel
theorem dX12_kin_45 : decode cX12_kin 45 = .ok (.ifCond .eq 9, 3) := by decide +kernel
theorem dX12_kin_48 : decode cX12_kin 48 = .ok (.iload_n 2, 1) := by decide +kernel
theorem dX12_kin_49 : decode cX12_kin 49 = .ok (.iconst 1, 1) := by decide +kernel
theorem dX12_kin_50 : decode cX12_kin 50 = .ok (.iload_n 3, 1) := by decide +kernel
theorem dX12_kin_51 : decode cX12_kin 51 = .ok (.ishl, 1) := by decide +kernel
theorem dX12_kin_52 : decode cX12_kin 52 = .ok (.ior, 1) := by decide +kernel
theorem dX12_kin_53 : decode cX12_kin 53 = .ok (.istore_n 2, 1) := by decide +kernel
theorem dX12_kin_54 : decode cX12_kin 54 = .ok (.iinc 3 1, 3) := by decide +kernel
theorem dX12_kin_57 : decode cX12_kin 57 = .ok (.goto (-36), 3) := by decide +kernel
theorem dX12_kin_60 : decode cX12_kin 60 = .ok (.iload_n 2, 1) := by decide +kernel
theorem dX12_kin_61 : decode cX12_kin 61 = .ok (.iconst 1, 1) := by decide +kernel
theorem dX12_kin_62 : decode cX12_kin 62 = .ok (.iload_n 1, 1) := by decide +kernel
theorem dX12_kin_63 : decode cX12_kin 63 = .ok (.ishl, 1) := by decide +kernel
theorem dX12_kin_64 : decode cX12_kin 64 = .ok (.iconst (-1), 1) := by decide +kernel
theorem dX12_kin_65 : decode cX12_kin 65 = .ok (.ixor, 1) := by decide +kernel
theorem dX12_kin_66 : decode cX12_kin 66 = .ok (.iand, 1) := by decide +kernel
theorem dX12_kin_67 : decode cX12_kin 67 = .ok (.ireturn, 1) := by decide +kernel
set_option maxRecDepth 20000 in
theorem ggX12_nearest_X3_isThere : GoodIn wsX12_nearest wsX3_isThere := goodIn_r _ [8, 9, 41, 42, 43, 44, 45, 46, 47, 48, 49, 50, 51, 52, 53] (by decide +kernel) (by decide +kernel)
set_option maxRecDepth 20000 in
theorem gX12_nearest_X3_isThere : GoodIn wsX12_nearest (wsV RX12 130 RX3 yX3_isThere wsX3_isThere) := goodIn_app (goodIn_of _ (by decide +kernel)) ggX12_nearest_X3_isThere
set_option maxRecDepth 20000 in
theorem ggX12_nearest_X3_apart : GoodIn wsX12_nearest wsX3_apart := goodIn_r _ [13, 14, 15, 16, 17, 18, 19, 20, 21, 41, 42, 43, 44, 45, 46, 47, 48, 49, 50, 51, 52, 53] (by decide +kernel) (by decide +kernel)
set_option maxRecDepth 20000 in
theorem gX12_nearest_X3_apart : GoodIn wsX12_nearest (wsV RX12 150 RX3 yX3_apart wsX3_apart) := goodIn_app (goodIn_of _ (by decide +kernel)) ggX12_nearest_X3_apart
theorem dX12_nearest_0 : decode cX12_nearest 0 = .ok (.aload_n 0, 1) := by decide +kernel
theorem dX12_nearest_1 : decode cX12_nearest 1 = .ok (.getfield 28, 3) := by decide +kernel
theorem dX12_nearest_4 : decode cX12_nearest 4 = .ok (.iload_n 1, 1) := by decide +kernel
theorem dX12_nearest_5 : decode cX12_nearest 5 = .ok (.invokevirtual 130, 3) := by decide +kernel
theorem dX12_nearest_8 : decode cX12_nearest 8 = .ok (.ifCond .ne 5, 3) := by decide +kernel
theorem dX12_nearest_11 : decode cX12_nearest 11 = .ok (.iconst (-1), 1) := by decide +kernel
theorem dX12_nearest_12 : decode cX12_nearest 12 = .ok (.ireturn, 1) := by decide +kernel
theorem dX12_nearest_13 : decode cX12_nearest 13 = .ok (.iconst (-1), 1) := by decide +kernel
theorem dX12_nearest_14 : decode cX12_nearest 14 = .ok (.istore_n 2, 1) := by decide +kernel
theorem dX12_nearest_15 : decode cX12_nearest 15 = .ok (.iconst 0, 1) := by decide +kernel
theorem dX12_nearest_16 : decode cX12_nearest 16 = .ok (.istore_n 3, 1) := by decide +kernel
theorem dX12_nearest_17 : decode cX12_nearest 17 = .ok (.iload_n 3, 1) := by decide +kernel
theorem dX12_nearest_18 : decode cX12_nearest 18 = .ok (.aload_n 0, 1) := by decide +kernel
theorem dX12_nearest_19 : decode cX12_nearest 19 = .ok (.getfield 28, 3) := by decide +kernel
theorem dX12_nearest_22 : decode cX12_nearest 22 = .ok (.getfield 176, 3) := by decide +kernel
theorem dX12_nearest_25 : decode cX12_nearest 25 = .ok (.if_icmp .ge 68, 3) := by decide +kernel
theorem dX12_nearest_28 : decode cX12_nearest 28 = .ok (.iload_n 3, 1) := by decide +kernel
theorem dX12_nearest_29 : decode cX12_nearest 29 = .ok (.iload_n 1, 1) := by decide +kernel
theorem dX12_nearest_30 : decode cX12_nearest 30 = .ok (.if_icmp .eq 21, 3) := by decide +kernel
theorem dX12_nearest_33 : decode cX12_nearest 33 = .ok (.aload_n 0, 1) := by decide +kernel
theorem dX12_nearest_34 : decode cX12_nearest 34 = .ok (.getfield 28, 3) := by decide +kernel
theorem dX12_nearest_37 : decode cX12_nearest 37 = .ok (.getfield 137, 3) := by decide +kernel
theorem dX12_nearest_40 : decode cX12_nearest 40 = .ok (.iload_n 3, 1) := by decide +kernel
theorem dX12_nearest_41 : decode cX12_nearest 41 = .ok (.iaload, 1) := by decide +kernel
theorem dX12_nearest_42 : decode cX12_nearest 42 = .ok (.bipush 6, 2) := by decide +kernel
theorem dX12_nearest_44 : decode cX12_nearest 44 = .ok (.if_icmp .eq 7, 3) := by decide +kernel
theorem dX12_nearest_47 : decode cX12_nearest 47 = .ok (.iconst 1, 1) := by decide +kernel
theorem dX12_nearest_48 : decode cX12_nearest 48 = .ok (.goto 4, 3) := by decide +kernel
theorem dX12_nearest_51 : decode cX12_nearest 51 = .ok (.iconst 0, 1) := by decide +kernel
theorem dX12_nearest_52 : decode cX12_nearest 52 = .ok (.istore 4, 2) := by decide +kernel
theorem dX12_nearest_54 : decode cX12_nearest 54 = .ok (.iload 4, 2) := by decide +kernel
theorem dX12_nearest_56 : decode cX12_nearest 56 = .ok (.ifCond .eq 31, 3) := by decide +kernel
theorem dX12_nearest_59 : decode cX12_nearest 59 = .ok (.iload_n 2, 1) := by decide +kernel
theorem dX12_nearest_60 : decode cX12_nearest 60 = .ok (.iconst (-1), 1) := by decide +kernel
theorem dX12_nearest_61 : decode cX12_nearest 61 = .ok (.if_icmp .eq 24, 3) := by decide +kernel
theorem dX12_nearest_64 : decode cX12_nearest 64 = .ok (.aload_n 0, 1) := by decide +kernel
theorem dX12_nearest_65 : decode cX12_nearest 65 = .ok (.getfield 28, 3) := by decide +kernel
theorem dX12_nearest_68 : decode cX12_nearest 68 = .ok (.iload_n 1, 1) := by decide +kernel
theorem dX12_nearest_69 : decode cX12_nearest 69 = .ok (.iload_n 3, 1) := by decide +kernel
theorem dX12_nearest_70 : decode cX12_nearest 70 = .ok (.invokevirtual 150, 3) := by decide +kernel
theorem dX12_nearest_73 : decode cX12_nearest 73 = .ok (.aload_n 0, 1) := by decide +kernel
theorem dX12_nearest_74 : decode cX12_nearest 74 = .ok (.getfield 28, 3) := by decide +kernel
theorem dX12_nearest_77 : decode cX12_nearest 77 = .ok (.iload_n 1, 1) := by decide +kernel
theorem dX12_nearest_78 : decode cX12_nearest 78 = .ok (.iload_n 2, 1) := by decide +kernel
theorem dX12_nearest_79 : decode cX12_nearest 79 = .ok (.invokevirtual 150, 3) := by decide +kernel
theorem dX12_nearest_82 : decode cX12_nearest 82 = .ok (.if_icmp .ge 5, 3) := by decide +kernel
theorem dX12_nearest_85 : decode cX12_nearest 85 = .ok (.iload_n 3, 1) := by decide +kernel
theorem dX12_nearest_86 : decode cX12_nearest 86 = .ok (.istore_n 2, 1) := by decide +kernel
theorem dX12_nearest_87 : decode cX12_nearest 87 = .ok (.iinc 3 1, 3) := by decide +kernel
theorem dX12_nearest_90 : decode cX12_nearest 90 = .ok (.goto (-73), 3) := by decide +kernel
theorem dX12_nearest_93 : decode cX12_nearest 93 = .ok (.iload_n 2, 1) := by decide +kernel
theorem dX12_nearest_94 : decode cX12_nearest 94 = .ok (.ireturn, 1) := by decide +kernel
set_option maxRecDepth 20000 in
theorem ggX12_meet_X1_hasThief : GoodIn wsX12_meet wsX1_hasThief := goodIn_r _ [10, 11, 31, 32, 33, 34, 35, 36, 37, 38, 39, 40, 41, 42, 43] (by decide +kernel) (by decide +kernel)
set_option maxRecDepth 20000 in
theorem gX12_meet_X1_hasThief : GoodIn wsX12_meet (wsV RX12 154 RX1 yX1_hasThief wsX1_hasThief) := goodIn_app (goodIn_of _ (by decide +kernel)) ggX12_meet_X1_hasThief
theorem dX12_meet_0 : decode cX12_meet 0 = .ok (.aload_n 0, 1) := by decide +kernel
theorem dX12_meet_1 : decode cX12_meet 1 = .ok (.getfield 76, 3) := by decide +kernel
theorem dX12_meet_4 : decode cX12_meet 4 = .ok (.iload_n 1, 1) := by decide +kernel
theorem dX12_meet_5 : decode cX12_meet 5 = .ok (.invokevirtual 154, 3) := by decide +kernel
theorem dX12_meet_8 : decode cX12_meet 8 = .ok (.ifCond .ne 5, 3) := by decide +kernel
theorem dX12_meet_11 : decode cX12_meet 11 = .ok (.iconst (-1), 1) := by decide +kernel
theorem dX12_meet_12 : decode cX12_meet 12 = .ok (.ireturn, 1) := by decide +kernel
theorem dX12_meet_13 : decode cX12_meet 13 = .ok (.aload_n 0, 1) := by decide +kernel
theorem dX12_meet_14 : decode cX12_meet 14 = .ok (.getfield 76, 3) := by decide +kernel
theorem dX12_meet_17 : decode cX12_meet 17 = .ok (.getfield 166, 3) := by decide +kernel
theorem dX12_meet_20 : decode cX12_meet 20 = .ok (.iload_n 1, 1) := by decide +kernel
theorem dX12_meet_21 : decode cX12_meet 21 = .ok (.iaload, 1) := by decide +kernel
theorem dX12_meet_22 : decode cX12_meet 22 = .ok (.aload_n 0, 1) := by decide +kernel
theorem dX12_meet_23 : decode cX12_meet 23 = .ok (.getfield 28, 3) := by decide +kernel
theorem dX12_meet_26 : decode cX12_meet 26 = .ok (.getfield 195, 3) := by decide +kernel
theorem dX12_meet_29 : decode cX12_meet 29 = .ok (.iconst (-1), 1) := by decide +kernel
theorem dX12_meet_30 : decode cX12_meet 30 = .ok (.ixor, 1) := by decide +kernel
theorem dX12_meet_31 : decode cX12_meet 31 = .ok (.iand, 1) := by decide +kernel
theorem dX12_meet_32 : decode cX12_meet 32 = .ok (.istore_n 2, 1) := by decide +kernel
theorem dX12_meet_33 : decode cX12_meet 33 = .ok (.iconst 0, 1) := by decide +kernel
theorem dX12_meet_34 : decode cX12_meet 34 = .ok (.istore_n 3, 1) := by decide +kernel
theorem dX12_meet_35 : decode cX12_meet 35 = .ok (.iconst 0, 1) := by decide +kernel
theorem dX12_meet_36 : decode cX12_meet 36 = .ok (.istore 4, 2) := by decide +kernel
theorem dX12_meet_38 : decode cX12_meet 38 = .ok (.iload 4, 2) := by decide +kernel
theorem dX12_meet_40 : decode cX12_meet 40 = .ok (.aload_n 0, 1) := by decide +kernel
theorem dX12_meet_41 : decode cX12_meet 41 = .ok (.getfield 76, 3) := by decide +kernel
theorem dX12_meet_44 : decode cX12_meet 44 = .ok (.getfield 179, 3) := by decide +kernel
theorem dX12_meet_47 : decode cX12_meet 47 = .ok (.if_icmp .ge 37, 3) := by decide +kernel
theorem dX12_meet_50 : decode cX12_meet 50 = .ok (.iload 4, 2) := by decide +kernel
theorem dX12_meet_52 : decode cX12_meet 52 = .ok (.iload_n 1, 1) := by decide +kernel
theorem dX12_meet_53 : decode cX12_meet 53 = .ok (.if_icmp .eq 25, 3) := by decide +kernel
theorem dX12_meet_56 : decode cX12_meet 56 = .ok (.aload_n 0, 1) := by decide +kernel
theorem dX12_meet_57 : decode cX12_meet 57 = .ok (.getfield 76, 3) := by decide +kernel
theorem dX12_meet_60 : decode cX12_meet 60 = .ok (.getfield 166, 3) := by decide +kernel
theorem dX12_meet_63 : decode cX12_meet 63 = .ok (.iload 4, 2) := by decide +kernel
theorem dX12_meet_65 : decode cX12_meet 65 = .ok (.iaload, 1) := by decide +kernel
theorem dX12_meet_66 : decode cX12_meet 66 = .ok (.iload_n 2, 1) := by decide +kernel
theorem dX12_meet_67 : decode cX12_meet 67 = .ok (.iand, 1) := by decide +kernel
theorem dX12_meet_68 : decode cX12_meet 68 = .ok (.ifCond .eq 10, 3) := by decide +kernel
theorem dX12_meet_71 : decode cX12_meet 71 = .ok (.iload_n 3, 1) := by decide +kernel
theorem dX12_meet_72 : decode cX12_meet 72 = .ok (.iconst 1, 1) := by decide +kernel
theorem dX12_meet_73 : decode cX12_meet 73 = .ok (.iload 4, 2) := by decide +kernel
theorem dX12_meet_75 : decode cX12_meet 75 = .ok (.ishl, 1) := by decide +kernel
theorem dX12_meet_76 : decode cX12_meet 76 = .ok (.ior, 1) := by decide +kernel
theorem dX12_meet_77 : decode cX12_meet 77 = .ok (.istore_n 3, 1) := by decide +kernel
theorem dX12_meet_78 : decode cX12_meet 78 = .ok (.iinc 4 1, 3) := by decide +kernel
theorem dX12_meet_81 : decode cX12_meet 81 = .ok (.goto (-43), 3) := by decide +kernel
theorem dX12_meet_84 : decode cX12_meet 84 = .ok (.iload_n 3, 1) := by decide +kernel
theorem dX12_meet_85 : decode cX12_meet 85 = .ok (.ireturn, 1) := by decide +kernel
set_option maxRecDepth 20000 in
theorem ggX12_joined_X3_isThere : GoodIn wsX12_joined wsX3_isThere := goodIn_r _ [7, 8, 33, 34, 35, 36, 37, 38, 39, 40, 41, 42, 43, 44, 45] (by decide +kernel) (by decide +kernel)
set_option maxRecDepth 20000 in
theorem gX12_joined_X3_isThere : GoodIn wsX12_joined (wsV RX12 130 RX3 yX3_isThere wsX3_isThere) := goodIn_app (goodIn_of _ (by decide +kernel)) ggX12_joined_X3_isThere
set_option maxRecDepth 20000 in
theorem ggX12_joined_X3_joins : GoodIn wsX12_joined wsX3_joins := goodIn_r _ [12, 13, 33, 34, 35, 36, 37, 38, 39, 40, 41, 42, 43, 44, 45] (by decide +kernel) (by decide +kernel)
set_option maxRecDepth 20000 in
theorem gX12_joined_X3_joins : GoodIn wsX12_joined (wsV RX12 269 RX3 yX3_joins wsX3_joins) := goodIn_app (goodIn_of _ (by decide +kernel)) ggX12_joined_X3_joins
theorem dX12_joined_0 : decode cX12_joined 0 = .ok (.aload_n 0, 1) := by decide +kernel
theorem dX12_joined_1 : decode cX12_joined 1 = .ok (.getfield 28, 3) := by decide +kernel
theorem dX12_joined_4 : decode cX12_joined 4 = .ok (.iload_n 1, 1) := by decide +kernel
theorem dX12_joined_5 : decode cX12_joined 5 = .ok (.invokevirtual 130, 3) := by decide +kernel
theorem dX12_joined_8 : decode cX12_joined 8 = .ok (.ifCond .eq 12, 3) := by decide +kernel
theorem dX12_joined_11 : decode cX12_joined 11 = .ok (.iload_n 2, 1) := by decide +kernel
theorem dX12_joined_12 : decode cX12_joined 12 = .ok (.ifCond .lt 8, 3) := by decide +kernel
theorem dX12_joined_15 : decode cX12_joined 15 = .ok (.iload_n 2, 1) := by decide +kernel
theorem dX12_joined_16 : decode cX12_joined 16 = .ok (.iconst 1, 1) := by decide +kernel
theorem dX12_joined_17 : decode cX12_joined 17 = .ok (.if_icmp .le 6, 3) := by decide +kernel
theorem dX12_joined_20 : decode cX12_joined 20 = .ok (.bipush (-2), 2) := by decide +kernel
theorem dX12_joined_22 : decode cX12_joined 22 = .ok (.ireturn, 1) := by decide +kernel
theorem dX12_joined_23 : decode cX12_joined 23 = .ok (.iconst 0, 1) := by decide +kernel
theorem dX12_joined_24 : decode cX12_joined 24 = .ok (.istore_n 3, 1) := by decide +kernel
theorem dX12_joined_25 : decode cX12_joined 25 = .ok (.iconst (-1), 1) := by decide +kernel
theorem dX12_joined_26 : decode cX12_joined 26 = .ok (.istore 4, 2) := by decide +kernel
theorem dX12_joined_28 : decode cX12_joined 28 = .ok (.iconst 0, 1) := by decide +kernel
theorem dX12_joined_29 : decode cX12_joined 29 = .ok (.istore 5, 2) := by decide +kernel
theorem dX12_joined_31 : decode cX12_joined 31 = .ok (.iload 5, 2) := by decide +kernel
theorem dX12_joined_33 : decode cX12_joined 33 = .ok (.aload_n 0, 1) := by decide +kernel
theorem dX12_joined_34 : decode cX12_joined 34 = .ok (.getfield 28, 3) := by decide +kernel
theorem dX12_joined_37 : decode cX12_joined 37 = .ok (.getfield 176, 3) := by decide +kernel
theorem dX12_joined_40 : decode cX12_joined 40 = .ok (.if_icmp .ge 72, 3) := by decide +kernel
theorem dX12_joined_43 : decode cX12_joined 43 = .ok (.iload 5, 2) := by decide +kernel
theorem dX12_joined_45 : decode cX12_joined 45 = .ok (.iconst 1, 1) := by decide +kernel
theorem dX12_joined_46 : decode cX12_joined 46 = .ok (.iadd, 1) := by decide +kernel
theorem dX12_joined_47 : decode cX12_joined 47 = .ok (.istore 6, 2) := by decide +kernel
theorem dX12_joined_49 : decode cX12_joined 49 = .ok (.iload 6, 2) := by decide +kernel
theorem dX12_joined_51 : decode cX12_joined 51 = .ok (.aload_n 0, 1) := by decide +kernel
theorem dX12_joined_52 : decode cX12_joined 52 = .ok (.getfield 28, 3) := by decide +kernel
theorem dX12_joined_55 : decode cX12_joined 55 = .ok (.getfield 176, 3) := by decide +kernel
theorem dX12_joined_58 : decode cX12_joined 58 = .ok (.if_icmp .ge 48, 3) := by decide +kernel
theorem dX12_joined_61 : decode cX12_joined 61 = .ok (.aload_n 0, 1) := by decide +kernel
theorem dX12_joined_62 : decode cX12_joined 62 = .ok (.getfield 28, 3) := by decide +kernel
theorem dX12_joined_65 : decode cX12_joined 65 = .ok (.iload 5, 2) := by decide +kernel
theorem dX12_joined_67 : decode cX12_joined 67 = .ok (.iload 6, 2) := by decide +kernel
theorem dX12_joined_69 : decode cX12_joined 69 = .ok (.iload_n 1, 1) := by decide +kernel
theorem dX12_joined_70 : decode cX12_joined 70 = .ok (.invokevirtual 269, 3) := by decide +kernel
theorem dX12_joined_73 : decode cX12_joined 73 = .ok (.ifCond .eq 27, 3) := by decide +kernel
theorem dX12_joined_76 : decode cX12_joined 76 = .ok (.iinc 3 1, 3) := by decide +kernel
theorem dX12_joined_79 : decode cX12_joined 79 = .ok (.iload 4, 2) := by decide +kernel
theorem dX12_joined_81 : decode cX12_joined 81 = .ok (.iconst (-1), 1) := by decide +kernel
theorem dX12_joined_82 : decode cX12_joined 82 = .ok (.if_icmp .ne 14, 3) := by decide +kernel
theorem dX12_joined_85 : decode cX12_joined 85 = .ok (.iload 5, 2) := by decide +kernel
theorem dX12_joined_87 : decode cX12_joined 87 = .ok (.bipush 8, 2) := by decide +kernel
theorem dX12_joined_89 : decode cX12_joined 89 = .ok (.imul, 1) := by decide +kernel
theorem dX12_joined_90 : decode cX12_joined 90 = .ok (.iload 6, 2) := by decide +kernel
theorem dX12_joined_92 : decode cX12_joined 92 = .ok (.iadd, 1) := by decide +kernel
theorem dX12_joined_93 : decode cX12_joined 93 = .ok (.goto 5, 3) := by decide +kernel
theorem dX12_joined_96 : decode cX12_joined 96 = .ok (.iload 4, 2) := by decide +kernel
theorem dX12_joined_98 : decode cX12_joined 98 = .ok (.istore 4, 2) := by decide +kernel
theorem dX12_joined_100 : decode cX12_joined 100 = .ok (.iinc 6 1, 3) := by decide +kernel
theorem dX12_joined_103 : decode cX12_joined 103 = .ok (.goto (-54), 3) := by decide +kernel
theorem dX12_joined_106 : decode cX12_joined 106 = .ok (.iinc 5 1, 3) := by decide +kernel
theorem dX12_joined_109 : decode cX12_joined 109 = .ok (.goto (-78), 3) := by decide +kernel
theorem dX12_joined_112 : decode cX12_joined 112 = .ok (.iload_n 2, 1) := by decide +kernel
theorem dX12_joined_113 : decode cX12_joined 113 = .ok (.ifCond .ne 7, 3) := by decide +kernel
theorem dX12_joined_116 : decode cX12_joined 116 = .ok (.iload_n 3, 1) := by decide +kernel
theorem dX12_joined_117 : decode cX12_joined 117 = .ok (.goto 5, 3) := by decide +kernel
theorem dX12_joined_120 : decode cX12_joined 120 = .ok (.iload 4, 2) := by decide +kernel
theorem dX12_joined_122 : decode cX12_joined 122 = .ok (.ireturn, 1) := by decide +kernel
set_option maxRecDepth 20000 in
theorem ggX12_look_X1_hasSpot : GoodIn wsX12_look wsX1_hasSpot := goodIn_r _ [10, 11, 44, 45, 46, 47, 48, 49, 50, 51, 52, 53, 54, 55, 56] (by decide +kernel) (by decide +kernel)
set_option maxRecDepth 20000 in
theorem gX12_look_X1_hasSpot : GoodIn wsX12_look (wsV RX12 273 RX1 yX1_hasSpot wsX1_hasSpot) := goodIn_app (goodIn_of _ (by decide +kernel)) ggX12_look_X1_hasSpot
theorem dX12_look_0 : decode cX12_look 0 = .ok (.aload_n 0, 1) := by decide +kernel
theorem dX12_look_1 : decode cX12_look 1 = .ok (.getfield 76, 3) := by decide +kernel
theorem dX12_look_4 : decode cX12_look 4 = .ok (.iload_n 1, 1) := by decide +kernel
theorem dX12_look_5 : decode cX12_look 5 = .ok (.invokevirtual 273, 3) := by decide +kernel
theorem dX12_look_8 : decode cX12_look 8 = .ok (.ifCond .eq 15, 3) := by decide +kernel
theorem dX12_look_11 : decode cX12_look 11 = .ok (.aload_n 0, 1) := by decide +kernel
theorem dX12_look_12 : decode cX12_look 12 = .ok (.getfield 28, 3) := by decide +kernel
theorem dX12_look_15 : decode cX12_look 15 = .ok (.getfield 198, 3) := by decide +kernel
theorem dX12_look_18 : decode cX12_look 18 = .ok (.bipush 8, 2) := by decide +kernel
theorem dX12_look_20 : decode cX12_look 20 = .ok (.if_icmp .lt 5, 3) := by decide +kernel
theorem dX12_look_23 : decode cX12_look 23 = .ok (.iconst 0, 1) := by decide +kernel
theorem dX12_look_24 : decode cX12_look 24 = .ok (.ireturn, 1) := by decide +kernel
theorem dX12_look_25 : decode cX12_look 25 = .ok (.aload_n 0, 1) := by decide +kernel
theorem dX12_look_26 : decode cX12_look 26 = .ok (.getfield 28, 3) := by decide +kernel
theorem dX12_look_29 : decode cX12_look 29 = .ok (.dup, 1) := by decide +kernel
theorem dX12_look_30 : decode cX12_look 30 = .ok (.getfield 198, 3) := by decide +kernel
theorem dX12_look_33 : decode cX12_look 33 = .ok (.iconst 1, 1) := by decide +kernel
theorem dX12_look_34 : decode cX12_look 34 = .ok (.iadd, 1) := by decide +kernel
theorem dX12_look_35 : decode cX12_look 35 = .ok (.putfield 198, 3) := by decide +kernel
theorem dX12_look_38 : decode cX12_look 38 = .ok (.iload_n 2, 1) := by decide +kernel
theorem dX12_look_39 : decode cX12_look 39 = .ok (.ifCond .eq 21, 3) := by decide +kernel
theorem dX12_look_42 : decode cX12_look 42 = .ok (.aload_n 0, 1) := by decide +kernel
theorem dX12_look_43 : decode cX12_look 43 = .ok (.getfield 28, 3) := by decide +kernel
theorem dX12_look_46 : decode cX12_look 46 = .ok (.dup, 1) := by decide +kernel
theorem dX12_look_47 : decode cX12_look 47 = .ok (.getfield 276, 3) := by decide +kernel
theorem dX12_look_50 : decode cX12_look 50 = .ok (.iconst 1, 1) := by decide +kernel
theorem dX12_look_51 : decode cX12_look 51 = .ok (.iload_n 1, 1) := by decide +kernel
theorem dX12_look_52 : decode cX12_look 52 = .ok (.ishl, 1) := by decide +kernel
theorem dX12_look_53 : decode cX12_look 53 = .ok (.ior, 1) := by decide +kernel
theorem dX12_look_54 : decode cX12_look 54 = .ok (.putfield 276, 3) := by decide +kernel
theorem dX12_look_57 : decode cX12_look 57 = .ok (.goto 18, 3) := by decide +kernel
theorem dX12_look_60 : decode cX12_look 60 = .ok (.aload_n 0, 1) := by decide +kernel
theorem dX12_look_61 : decode cX12_look 61 = .ok (.getfield 28, 3) := by decide +kernel
theorem dX12_look_64 : decode cX12_look 64 = .ok (.dup, 1) := by decide +kernel
theorem dX12_look_65 : decode cX12_look 65 = .ok (.getfield 279, 3) := by decide +kernel
theorem dX12_look_68 : decode cX12_look 68 = .ok (.iconst 1, 1) := by decide +kernel
theorem dX12_look_69 : decode cX12_look 69 = .ok (.iload_n 1, 1) := by decide +kernel
theorem dX12_look_70 : decode cX12_look 70 = .ok (.ishl, 1) := by decide +kernel
theorem dX12_look_71 : decode cX12_look 71 = .ok (.ior, 1) := by decide +kernel
theorem dX12_look_72 : decode cX12_look 72 = .ok (.putfield 279, 3) := by decide +kernel
theorem dX12_look_75 : decode cX12_look 75 = .ok (.iconst 1, 1) := by decide +kernel
theorem dX12_look_76 : decode cX12_look 76 = .ok (.ireturn, 1) := by decide +kernel
set_option maxRecDepth 20000 in
theorem ggX12_fits_X3_isFitting : GoodIn wsX12_fits wsX3_isFitting := goodIn_r _ [7, 8, 9, 10, 11, 31, 32, 33, 34, 35, 36, 37, 38, 39, 40, 41, 42, 43] (by decide +kernel) (by decide +kernel)
set_option maxRecDepth 20000 in
theorem gX12_fits_X3_isFitting : GoodIn wsX12_fits (wsV RX12 282 RX3 yX3_isFitting wsX3_isFitting) := goodIn_app (goodIn_of _ (by decide +kernel)) ggX12_fits_X3_isFitting
theorem dX12_fits_0 : decode cX12_fits 0 = .ok (.iconst 0, 1) := by decide +kernel
theorem dX12_fits_1 : decode cX12_fits 1 = .ok (.istore_n 1, 1) := by decide +kernel
theorem dX12_fits_2 : decode cX12_fits 2 = .ok (.iconst 0, 1) := by decide +kernel
theorem dX12_fits_3 : decode cX12_fits 3 = .ok (.istore_n 2, 1) := by decide +kernel
theorem dX12_fits_4 : decode cX12_fits 4 = .ok (.iload_n 2, 1) := by decide +kernel
theorem dX12_fits_5 : decode cX12_fits 5 = .ok (.aload_n 0, 1) := by decide +kernel
theorem dX12_fits_6 : decode cX12_fits 6 = .ok (.getfield 28, 3) := by decide +kernel
theorem dX12_fits_9 : decode cX12_fits 9 = .ok (.getfield 176, 3) := by decide +kernel
theorem dX12_fits_12 : decode cX12_fits 12 = .ok (.if_icmp .ge 26, 3) := by decide +kernel
theorem dX12_fits_15 : decode cX12_fits 15 = .ok (.aload_n 0, 1) := by decide +kernel
theorem dX12_fits_16 : decode cX12_fits 16 = .ok (.getfield 28, 3) := by decide +kernel
theorem dX12_fits_19 : decode cX12_fits 19 = .ok (.iload_n 2, 1) := by decide +kernel
theorem dX12_fits_20 : decode cX12_fits 20 = .ok (.invokevirtual 282, 3) := by decide +kernel
theorem dX12_fits_23 : decode cX12_fits 23 = .ok (.ifCond .eq 9, 3) := by decide +kernel
theorem dX12_fits_26 : decode cX12_fits 26 = .ok (.iload_n 1, 1) := by decide +kernel
theorem dX12_fits_27 : decode cX12_fits 27 = .ok (.iconst 1, 1) := by decide +kernel
theorem dX12_fits_28 : decode cX12_fits 28 = .ok (.iload_n 2, 1) := by decide +kernel
theorem dX12_fits_29 : decode cX12_fits 29 = .ok (.ishl, 1) := by decide +kernel
theorem dX12_fits_30 : decode cX12_fits 30 = .ok (.ior, 1) := by decide +kernel
theorem dX12_fits_31 : decode cX12_fits 31 = .ok (.istore_n 1, 1) := by decide +kernel
theorem dX12_fits_32 : decode cX12_fits 32 = .ok (.iinc 2 1, 3) := by decide +kernel
theorem dX12_fits_35 : decode cX12_fits 35 = .ok (.goto (-31), 3) := by decide +kernel
theorem dX12_fits_38 : decode cX12_fits 38 = .ok (.iload_n 1, 1) := by decide +kernel
theorem dX12_fits_39 : decode cX12_fits 39 = .ok (.ireturn, 1) := by decide +kernel
set_option maxRecDepth 20000 in
theorem ggX12_ask_X12_fits : GoodIn wsX12_ask wsX12_fits := goodIn_r _ [7, 8, 9, 10, 11, 12, 13, 14, 15, 16, 17, 18, 35, 36, 37, 38, 39, 40, 41, 42, 43, 44, 45, 46, 47, 48, 49, 50, 51, 52, 53, 67, 68, 69, 70, 71, 72, 73, 74, 75, 76, 77, 78, 79] (by decide +kernel) (by decide +kernel)
set_option maxRecDepth 20000 in
theorem gX12_ask_X12_fits : GoodIn wsX12_ask (wsV RX12 285 RX12 yX12_fits wsX12_fits) := goodIn_app (goodIn_of _ (by decide +kernel)) ggX12_ask_X12_fits
set_option maxRecDepth 20000 in
theorem ggX12_ask_J6_bitCount_0f7a4 : GoodIn wsX12_ask wsJ6_bitCount_0f7a4 := goodIn_r _ [22, 23, 24, 25] (by decide +kernel) (by decide +kernel)
set_option maxRecDepth 20000 in
theorem gX12_ask_J6_bitCount_0f7a4 : GoodIn wsX12_ask (va_wsS RX12 248 yJ6_bitCount_0f7a4 wsJ6_bitCount_0f7a4) := goodIn_app (goodIn_of _ (by decide +kernel)) ggX12_ask_J6_bitCount_0f7a4
set_option maxRecDepth 20000 in
theorem ggX12_ask_X12_greaterPart : GoodIn wsX12_ask wsX12_greaterPart := goodIn_r _ [29, 8, 9, 30, 31, 32, 33, 34, 10, 11, 12, 13, 14, 15, 16, 17, 18, 35, 36, 37, 38, 39, 40, 41, 42, 43, 44, 45, 46, 47, 48, 49, 50, 51, 52, 53, 67, 68, 69, 70, 71, 72, 73, 74, 75, 76, 77, 78, 79] (by decide +kernel) (by decide +kernel)
set_option maxRecDepth 20000 in
theorem gX12_ask_X12_greaterPart : GoodIn wsX12_ask (wsV RX12 288 RX12 yX12_greaterPart wsX12_greaterPart) := goodIn_app (goodIn_of _ (by decide +kernel)) ggX12_ask_X12_greaterPart
theorem dX12_ask_0 : decode cX12_ask 0 = .ok (.iconst (-1), 1) := by decide +kernel
theorem dX12_ask_1 : decode cX12_ask 1 = .ok (.istore_n 1, 1) := by decide +kernel
theorem dX12_ask_2 : decode cX12_ask 2 = .ok (.aload_n 0, 1) := by decide +kernel
theorem dX12_ask_3 : decode cX12_ask 3 = .ok (.invokevirtual 285, 3) := by decide +kernel
theorem dX12_ask_6 : decode cX12_ask 6 = .ok (.invokestatic 248, 3) := by decide +kernel
theorem dX12_ask_9 : decode cX12_ask 9 = .ok (.istore_n 2, 1) := by decide +kernel
theorem dX12_ask_10 : decode cX12_ask 10 = .ok (.iconst 0, 1) := by decide +kernel
theorem dX12_ask_11 : decode cX12_ask 11 = .ok (.istore_n 3, 1) := by decide +kernel
theorem dX12_ask_12 : decode cX12_ask 12 = .ok (.iload_n 3, 1) := by decide +kernel
theorem dX12_ask_13 : decode cX12_ask 13 = .ok (.aload_n 0, 1) := by decide +kernel
theorem dX12_ask_14 : decode cX12_ask 14 = .ok (.getfield 76, 3) := by decide +kernel
theorem dX12_ask_17 : decode cX12_ask 17 = .ok (.getfield 173, 3) := by decide +kernel
theorem dX12_ask_20 : decode cX12_ask 20 = .ok (.if_icmp .ge 27, 3) := by decide +kernel
theorem dX12_ask_23 : decode cX12_ask 23 = .ok (.aload_n 0, 1) := by decide +kernel
theorem dX12_ask_24 : decode cX12_ask 24 = .ok (.iload_n 3, 1) := by decide +kernel
theorem dX12_ask_25 : decode cX12_ask 25 = .ok (.invokevirtual 288, 3) := by decide +kernel
theorem dX12_ask_28 : decode cX12_ask 28 = .ok (.istore 4, 2) := by decide +kernel
theorem dX12_ask_30 : decode cX12_ask 30 = .ok (.iload 4, 2) := by decide +kernel
theorem dX12_ask_32 : decode cX12_ask 32 = .ok (.iload_n 2, 1) := by decide +kernel
theorem dX12_ask_33 : decode cX12_ask 33 = .ok (.if_icmp .ge 8, 3) := by decide +kernel
theorem dX12_ask_36 : decode cX12_ask 36 = .ok (.iload 4, 2) := by decide +kernel
theorem dX12_ask_38 : decode cX12_ask 38 = .ok (.istore_n 2, 1) := by decide +kernel
theorem dX12_ask_39 : decode cX12_ask 39 = .ok (.iload_n 3, 1) := by decide +kernel
theorem dX12_ask_40 : decode cX12_ask 40 = .ok (.istore_n 1, 1) := by decide +kernel
theorem dX12_ask_41 : decode cX12_ask 41 = .ok (.iinc 3 1, 3) := by decide +kernel
theorem dX12_ask_44 : decode cX12_ask 44 = .ok (.goto (-32), 3) := by decide +kernel
theorem dX12_ask_47 : decode cX12_ask 47 = .ok (.iload_n 1, 1) := by decide +kernel
theorem dX12_ask_48 : decode cX12_ask 48 = .ok (.ireturn, 1) := by decide +kernel
set_option maxRecDepth 20000 in
theorem ggX12_greaterPart_X3_isFitting : GoodIn wsX12_greaterPart wsX3_isFitting := goodIn_r _ [12, 13, 14, 15, 16, 36, 37, 38, 39, 40, 41, 42, 43, 44, 45, 46, 47, 48] (by decide +kernel) (by decide +kernel)
set_option maxRecDepth 20000 in
theorem gX12_greaterPart_X3_isFitting : GoodIn wsX12_greaterPart (wsV RX12 282 RX3 yX3_isFitting wsX3_isFitting) := goodIn_app (goodIn_of _ (by decide +kernel)) ggX12_greaterPart_X3_isFitting
theorem dX12_greaterPart_0 : decode cX12_greaterPart 0 = .ok (.iconst 0, 1) := by decide +kernel
theorem dX12_greaterPart_1 : decode cX12_greaterPart 1 = .ok (.istore_n 2, 1) := by decide +kernel
theorem dX12_greaterPart_2 : decode cX12_greaterPart 2 = .ok (.iconst 0, 1) := by decide +kernel
theorem dX12_greaterPart_3 : decode cX12_greaterPart 3 = .ok (.istore_n 3, 1) := by decide +kernel
theorem dX12_greaterPart_4 : decode cX12_greaterPart 4 = .ok (.iconst 0, 1) := by decide +kernel
theorem dX12_greaterPart_5 : decode cX12_greaterPart 5 = .ok (.istore 4, 2) := by decide +kernel
theorem dX12_greaterPart_7 : decode cX12_greaterPart 7 = .ok (.iload 4, 2) := by decide +kernel
theorem dX12_greaterPart_9 : decode cX12_greaterPart 9 = .ok (.aload_n 0, 1) := by decide +kernel
theorem dX12_greaterPart_10 : decode cX12_greaterPart 10 = .ok (.getfield 28, 3) := by decide +kernel
theorem dX12_greaterPart_13 : decode cX12_greaterPart 13 = .ok (.getfield 176, 3) := by decide +kernel
theorem dX12_greaterPart_16 : decode cX12_greaterPart 16 = .ok (.if_icmp .ge 49, 3) := by decide +kernel
theorem dX12_greaterPart_19 : decode cX12_greaterPart 19 = .ok (.aload_n 0, 1) := by decide +kernel
theorem dX12_greaterPart_20 : decode cX12_greaterPart 20 = .ok (.getfield 28, 3) := by decide +kernel
theorem dX12_greaterPart_23 : decode cX12_greaterPart 23 = .ok (.iload 4, 2) := by decide +kernel
theorem dX12_greaterPart_25 : decode cX12_greaterPart 25 = .ok (.invokevirtual 282, 3) := by decide +kernel
theorem dX12_greaterPart_28 : decode cX12_greaterPart 28 = .ok (.ifCond .eq 31, 3) := by decide +kernel
theorem dX12_greaterPart_31 : decode cX12_greaterPart 31 = .ok (.aload_n 0, 1) := by decide +kernel
theorem dX12_greaterPart_32 : decode cX12_greaterPart 32 = .ok (.getfield 28, 3) := by decide +kernel
theorem dX12_greaterPart_35 : decode cX12_greaterPart 35 = .ok (.getfield 134, 3) := by decide +kernel
theorem dX12_greaterPart_38 : decode cX12_greaterPart 38 = .ok (.iload 4, 2) := by decide +kernel
theorem dX12_greaterPart_40 : decode cX12_greaterPart 40 = .ok (.iaload, 1) := by decide +kernel
theorem dX12_greaterPart_41 : decode cX12_greaterPart 41 = .ok (.iload_n 1, 1) := by decide +kernel
theorem dX12_greaterPart_42 : decode cX12_greaterPart 42 = .ok (.ishr, 1) := by decide +kernel
theorem dX12_greaterPart_43 : decode cX12_greaterPart 43 = .ok (.iconst 1, 1) := by decide +kernel
theorem dX12_greaterPart_44 : decode cX12_greaterPart 44 = .ok (.iand, 1) := by decide +kernel
theorem dX12_greaterPart_45 : decode cX12_greaterPart 45 = .ok (.istore 5, 2) := by decide +kernel
theorem dX12_greaterPart_47 : decode cX12_greaterPart 47 = .ok (.iload_n 2, 1) := by decide +kernel
theorem dX12_greaterPart_48 : decode cX12_greaterPart 48 = .ok (.iload 5, 2) := by decide +kernel
theorem dX12_greaterPart_50 : decode cX12_greaterPart 50 = .ok (.iadd, 1) := by decide +kernel
theorem dX12_greaterPart_51 : decode cX12_greaterPart 51 = .ok (.istore_n 2, 1) := by decide +kernel
theorem dX12_greaterPart_52 : decode cX12_greaterPart 52 = .ok (.iload_n 3, 1) := by decide +kernel
theorem dX12_greaterPart_53 : decode cX12_greaterPart 53 = .ok (.iconst 1, 1) := by decide +kernel
theorem dX12_greaterPart_54 : decode cX12_greaterPart 54 = .ok (.iload 5, 2) := by decide +kernel
theorem dX12_greaterPart_56 : decode cX12_greaterPart 56 = .ok (.isub, 1) := by decide +kernel
theorem dX12_greaterPart_57 : decode cX12_greaterPart 57 = .ok (.iadd, 1) := by decide +kernel
theorem dX12_greaterPart_58 : decode cX12_greaterPart 58 = .ok (.istore_n 3, 1) := by decide +kernel
theorem dX12_greaterPart_59 : decode cX12_greaterPart 59 = .ok (.iinc 4 1, 3) := by decide +kernel
theorem dX12_greaterPart_62 : decode cX12_greaterPart 62 = .ok (.goto (-55), 3) := by decide +kernel
theorem dX12_greaterPart_65 : decode cX12_greaterPart 65 = .ok (.iload_n 2, 1) := by decide +kernel
theorem dX12_greaterPart_66 : decode cX12_greaterPart 66 = .ok (.iload_n 3, 1) := by decide +kernel
theorem dX12_greaterPart_67 : decode cX12_greaterPart 67 = .ok (.invokestatic 291, 3) := by decide +kernel
theorem dX12_greaterPart_70 : decode cX12_greaterPart 70 = .ok (.ireturn, 1) := by decide +kernel
set_option maxRecDepth 20000 in
theorem ggX12_price_X3_isFitting : GoodIn wsX12_price wsX3_isFitting := goodIn_r _ [8, 9, 10, 11, 12, 69, 70, 71, 72, 73, 74, 75, 76, 77, 78, 79, 80, 81] (by decide +kernel) (by decide +kernel)
set_option maxRecDepth 20000 in
theorem gX12_price_X3_isFitting : GoodIn wsX12_price (wsV RX12 282 RX3 yX3_isFitting wsX3_isFitting) := goodIn_app (goodIn_of _ (by decide +kernel)) ggX12_price_X3_isFitting
set_option maxRecDepth 20000 in
theorem ggX12_price_X3_worthOf : GoodIn wsX12_price wsX3_worthOf := goodIn_r _ [16, 17, 18, 19, 20, 21, 22, 23, 24, 25, 26, 27, 28, 7, 29, 9, 30, 31, 32, 33, 34, 35, 36, 37, 38, 39, 40, 41, 42, 43, 44, 45, 46, 47, 48, 49, 82, 83, 84, 85, 86, 87, 88, 89, 90, 91, 92, 93, 94, 69, 70, 71, 72, 73, 74, 75, 76, 77, 78, 79, 80, 81, 95, 96] (by decide +kernel) (by decide +kernel)
set_option maxRecDepth 20000 in
theorem gX12_price_X3_worthOf : GoodIn wsX12_price (wsV RX12 146 RX3 yX3_worthOf wsX3_worthOf) := goodIn_app (goodIn_of _ (by decide +kernel)) ggX12_price_X3_worthOf
theorem dX12_price_0 : decode cX12_price 0 = .ok (.iconst 0, 1) := by decide +kernel
theorem dX12_price_1 : decode cX12_price 1 = .ok (.istore_n 1, 1) := by decide +kernel
theorem dX12_price_2 : decode cX12_price 2 = .ok (.iconst 0, 1) := by decide +kernel
theorem dX12_price_3 : decode cX12_price 3 = .ok (.istore_n 2, 1) := by decide +kernel
theorem dX12_price_4 : decode cX12_price 4 = .ok (.iconst 0, 1) := by decide +kernel
theorem dX12_price_5 : decode cX12_price 5 = .ok (.istore_n 3, 1) := by decide +kernel
theorem dX12_price_6 : decode cX12_price 6 = .ok (.iload_n 3, 1) := by decide +kernel
theorem dX12_price_7 : decode cX12_price 7 = .ok (.aload_n 0, 1) := by decide +kernel
theorem dX12_price_8 : decode cX12_price 8 = .ok (.getfield 28, 3) := by decide +kernel
theorem dX12_price_11 : decode cX12_price 11 = .ok (.getfield 176, 3) := by decide +kernel
theorem dX12_price_14 : decode cX12_price 14 = .ok (.if_icmp .ge 38, 3) := by decide +kernel
theorem dX12_price_17 : decode cX12_price 17 = .ok (.aload_n 0, 1) := by decide +kernel
theorem dX12_price_18 : decode cX12_price 18 = .ok (.getfield 28, 3) := by decide +kernel
theorem dX12_price_21 : decode cX12_price 21 = .ok (.iload_n 3, 1) := by decide +kernel
theorem dX12_price_22 : decode cX12_price 22 = .ok (.invokevirtual 282, 3) := by decide +kernel
theorem dX12_price_25 : decode cX12_price 25 = .ok (.ifCond .eq 21, 3) := by decide +kernel
theorem dX12_price_28 : decode cX12_price 28 = .ok (.iload_n 1, 1) := by decide +kernel
theorem dX12_price_29 : decode cX12_price 29 = .ok (.aload_n 0, 1) := by decide +kernel
theorem dX12_price_30 : decode cX12_price 30 = .ok (.getfield 28, 3) := by decide +kernel
theorem dX12_price_33 : decode cX12_price 33 = .ok (.aload_n 0, 1) := by decide +kernel
theorem dX12_price_34 : decode cX12_price 34 = .ok (.getfield 76, 3) := by decide +kernel
theorem dX12_price_37 : decode cX12_price 37 = .ok (.iload_n 3, 1) := by decide +kernel
theorem dX12_price_38 : decode cX12_price 38 = .ok (.invokevirtual 146, 3) := by decide +kernel
theorem dX12_price_41 : decode cX12_price 41 = .ok (.iadd, 1) := by decide +kernel
theorem dX12_price_42 : decode cX12_price 42 = .ok (.istore_n 1, 1) := by decide +kernel
theorem dX12_price_43 : decode cX12_price 43 = .ok (.iinc 2 1, 3) := by decide +kernel
theorem dX12_price_46 : decode cX12_price 46 = .ok (.iinc 3 1, 3) := by decide +kernel
theorem dX12_price_49 : decode cX12_price 49 = .ok (.goto (-43), 3) := by decide +kernel
theorem dX12_price_52 : decode cX12_price 52 = .ok (.iload_n 2, 1) := by decide +kernel
theorem dX12_price_53 : decode cX12_price 53 = .ok (.ifCond .ne 7, 3) := by decide +kernel
theorem dX12_price_56 : decode cX12_price 56 = .ok (.iconst (-1), 1) := by decide +kernel
theorem dX12_price_57 : decode cX12_price 57 = .ok (.goto 10, 3) := by decide +kernel
theorem dX12_price_60 : decode cX12_price 60 = .ok (.iload_n 1, 1) := by decide +kernel
theorem dX12_price_61 : decode cX12_price 61 = .ok (.sipush 1000, 3) := by decide +kernel
theorem dX12_price_64 : decode cX12_price 64 = .ok (.imul, 1) := by decide +kernel
theorem dX12_price_65 : decode cX12_price 65 = .ok (.iload_n 2, 1) := by decide +kernel
theorem dX12_price_66 : decode cX12_price 66 = .ok (.idiv, 1) := by decide +kernel
theorem dX12_price_67 : decode cX12_price 67 = .ok (.ireturn, 1) := by decide +kernel
set_option maxRecDepth 20000 in
theorem ggX12_painters_X7_weigh : GoodIn wsX12_painters wsX7_weigh := goodIn_r _ [8, 9, 10, 11, 12, 13, 14, 15, 16, 17, 18, 19, 20, 21, 22, 23, 24, 25, 26, 27, 28, 29, 30, 31, 32, 33, 34, 35, 36, 37, 38, 39, 40, 41, 42, 43, 44, 45, 46, 47, 48, 49, 50, 7, 51, 52, 53, 54, 55, 56, 57, 58, 59, 60, 61, 62, 63, 64, 65, 66, 90, 91, 92, 93, 94, 95, 96, 97, 98, 99, 100, 101, 102, 103, 104, 105, 106, 107, 108, 109, 110, 111, 112, 113, 114, 115, 116, 117, 118, 119, 120] (by decide +kernel) (by decide +kernel)
set_option maxRecDepth 20000 in
theorem gX12_painters_X7_weigh : GoodIn wsX12_painters (wsV RX12 296 RX7 yX7_weigh wsX7_weigh) := goodIn_app (goodIn_of _ (by decide +kernel)) ggX12_painters_X7_weigh
set_option maxRecDepth 20000 in
theorem ggX12_painters_X7_total : GoodIn wsX12_painters wsX7_total := goodIn_r _ [70, 58, 103, 104, 105] (by decide +kernel) (by decide +kernel)
set_option maxRecDepth 20000 in
theorem gX12_painters_X7_total : GoodIn wsX12_painters (wsV RX12 300 RX7 yX7_total wsX7_total) := goodIn_app (goodIn_of _ (by decide +kernel)) ggX12_painters_X7_total
theorem dX12_painters_0 : decode cX12_painters 0 = .ok (.aload_n 0, 1) := by decide +kernel
theorem dX12_painters_1 : decode cX12_painters 1 = .ok (.getfield 52, 3) := by decide +kernel
theorem dX12_painters_4 : decode cX12_painters 4 = .ok (.aload_n 0, 1) := by decide +kernel
theorem dX12_painters_5 : decode cX12_painters 5 = .ok (.getfield 28, 3) := by decide +kernel
theorem dX12_painters_8 : decode cX12_painters 8 = .ok (.aload_n 0, 1) := by decide +kernel
theorem dX12_painters_9 : decode cX12_painters 9 = .ok (.getfield 76, 3) := by decide +kernel
theorem dX12_painters_12 : decode cX12_painters 12 = .ok (.invokevirtual 296, 3) := by decide +kernel
theorem dX12_painters_15 : decode cX12_painters 15 = .ok (.aload_n 0, 1) := by decide +kernel
theorem dX12_painters_16 : decode cX12_painters 16 = .ok (.getfield 52, 3) := by decide +kernel
theorem dX12_painters_19 : decode cX12_painters 19 = .ok (.invokevirtual 300, 3) := by decide +kernel
theorem dX12_painters_22 : decode cX12_painters 22 = .ok (.ireturn, 1) := by decide +kernel
set_option maxRecDepth 20000 in
theorem ggX12_painter_X3_isThere : GoodIn wsX12_painter wsX3_isThere := goodIn_r _ [8, 9, 108, 109, 110, 111, 112, 113, 114, 115, 116, 117, 118, 119, 120] (by decide +kernel) (by decide +kernel)
set_option maxRecDepth 20000 in
theorem gX12_painter_X3_isThere : GoodIn wsX12_painter (wsV RX12 130 RX3 yX3_isThere wsX3_isThere) := goodIn_app (goodIn_of _ (by decide +kernel)) ggX12_painter_X3_isThere
set_option maxRecDepth 20000 in
theorem ggX12_painter_X7_weigh : GoodIn wsX12_painter wsX7_weigh := goodIn_r _ [14, 15, 16, 17, 18, 19, 20, 21, 22, 23, 24, 25, 26, 27, 7, 28, 29, 30, 31, 32, 33, 34, 35, 36, 37, 38, 39, 40, 41, 42, 43, 44, 45, 46, 47, 48, 49, 50, 51, 52, 53, 54, 55, 13, 56, 57, 58, 59, 60, 61, 62, 63, 64, 65, 66, 67, 68, 69, 70, 71, 108, 109, 110, 111, 112, 113, 114, 115, 116, 117, 118, 119, 120, 121, 122, 123, 124, 125, 126, 127, 128, 129, 130, 131, 132, 133, 134, 135, 136, 137, 138] (by decide +kernel) (by decide +kernel)
set_option maxRecDepth 20000 in
theorem gX12_painter_X7_weigh : GoodIn wsX12_painter (wsV RX12 296 RX7 yX7_weigh wsX7_weigh) := goodIn_app (goodIn_of _ (by decide +kernel)) ggX12_painter_X7_weigh
set_option maxRecDepth 20000 in
theorem ggX12_painter_X7_inAll : GoodIn wsX12_painter wsX7_inAll := goodIn_r _ [75, 18, 76, 77, 78, 13, 79, 67, 80, 81, 82, 83, 68, 69, 70, 71, 63, 84, 85, 86, 87, 59, 60, 61, 62, 16, 64, 65, 66, 121, 122, 123] (by decide +kernel) (by decide +kernel)
set_option maxRecDepth 20000 in
theorem gX12_painter_X7_inAll : GoodIn wsX12_painter (wsV RX12 303 RX7 yX7_inAll wsX7_inAll) := goodIn_app (goodIn_of _ (by decide +kernel)) ggX12_painter_X7_inAll
set_option maxRecDepth 20000 in
theorem ggX12_painter_X7_inFirst : GoodIn wsX12_painter wsX7_inFirst := goodIn_r _ [79, 67, 80, 81, 82, 13, 83, 68, 69, 70, 71, 18, 63, 121, 122, 123] (by decide +kernel) (by decide +kernel)
set_option maxRecDepth 20000 in
theorem gX12_painter_X7_inFirst : GoodIn wsX12_painter (wsV RX12 306 RX7 yX7_inFirst wsX7_inFirst) := goodIn_app (goodIn_of _ (by decide +kernel)) ggX12_painter_X7_inFirst
theorem dX12_painter_0 : decode cX12_painter 0 = .ok (.iload_n 1, 1) := by decide +kernel
theorem dX12_painter_1 : decode cX12_painter 1 = .ok (.iconst 1, 1) := by decide +kernel
theorem dX12_painter_2 : decode cX12_painter 2 = .ok (.if_icmp .lt 14, 3) := by decide +kernel
theorem dX12_painter_5 : decode cX12_painter 5 = .ok (.aload_n 0, 1) := by decide +kernel
theorem dX12_painter_6 : decode cX12_painter 6 = .ok (.getfield 28, 3) := by decide +kernel
theorem dX12_painter_9 : decode cX12_painter 9 = .ok (.iload_n 1, 1) := by decide +kernel
theorem dX12_painter_10 : decode cX12_painter 10 = .ok (.invokevirtual 130, 3) := by decide +kernel
theorem dX12_painter_13 : decode cX12_painter 13 = .ok (.ifCond .ne 5, 3) := by decide +kernel
theorem dX12_painter_16 : decode cX12_painter 16 = .ok (.iconst (-1), 1) := by decide +kernel
theorem dX12_painter_17 : decode cX12_painter 17 = .ok (.ireturn, 1) := by decide +kernel
theorem dX12_painter_18 : decode cX12_painter 18 = .ok (.aload_n 0, 1) := by decide +kernel
theorem dX12_painter_19 : decode cX12_painter 19 = .ok (.getfield 52, 3) := by decide +kernel
theorem dX12_painter_22 : decode cX12_painter 22 = .ok (.aload_n 0, 1) := by decide +kernel
theorem dX12_painter_23 : decode cX12_painter 23 = .ok (.getfield 28, 3) := by decide +kernel
theorem dX12_painter_26 : decode cX12_painter 26 = .ok (.aload_n 0, 1) := by decide +kernel
theorem dX12_painter_27 : decode cX12_painter 27 = .ok (.getfield 76, 3) := by decide +kernel
theorem dX12_painter_30 : decode cX12_painter 30 = .ok (.invokevirtual 296, 3) := by decide +kernel
theorem dX12_painter_33 : decode cX12_painter 33 = .ok (.iload_n 2, 1) := by decide +kernel
theorem dX12_painter_34 : decode cX12_painter 34 = .ok (.ifCond .eq 14, 3) := by decide +kernel
theorem dX12_painter_37 : decode cX12_painter 37 = .ok (.aload_n 0, 1) := by decide +kernel
theorem dX12_painter_38 : decode cX12_painter 38 = .ok (.getfield 52, 3) := by decide +kernel
theorem dX12_painter_41 : decode cX12_painter 41 = .ok (.iload_n 1, 1) := by decide +kernel
theorem dX12_painter_42 : decode cX12_painter 42 = .ok (.invokevirtual 303, 3) := by decide +kernel
theorem dX12_painter_45 : decode cX12_painter 45 = .ok (.goto 11, 3) := by decide +kernel
theorem dX12_painter_48 : decode cX12_painter 48 = .ok (.aload_n 0, 1) := by decide +kernel
theorem dX12_painter_49 : decode cX12_painter 49 = .ok (.getfield 52, 3) := by decide +kernel
theorem dX12_painter_52 : decode cX12_painter 52 = .ok (.iload_n 1, 1) := by decide +kernel
theorem dX12_painter_53 : decode cX12_painter 53 = .ok (.invokevirtual 306, 3) := by decide +kernel
theorem dX12_painter_56 : decode cX12_painter 56 = .ok (.ireturn, 1) := by decide +kernel
set_option maxRecDepth 20000 in
theorem ggX12_knows_X12_areThere : GoodIn wsX12_knows wsX12_areThere := goodIn_r _ [7, 8, 9, 22, 23, 24, 25, 26, 27, 28, 29, 30, 31, 32, 33, 34, 35, 36, 37, 38, 39, 40, 54, 55, 56, 57, 58, 59, 60, 61, 62, 63, 64, 65, 66] (by decide +kernel) (by decide +kernel)
set_option maxRecDepth 20000 in
theorem gX12_knows_X12_areThere : GoodIn wsX12_knows (wsV RX12 253 RX12 yX12_areThere wsX12_areThere) := goodIn_app (goodIn_of _ (by decide +kernel)) ggX12_knows_X12_areThere
set_option maxRecDepth 20000 in
theorem ggX12_knows_X12_known : GoodIn wsX12_knows wsX12_known := goodIn_r _ [13, 8, 9, 1, 14, 15, 16, 17, 18, 19, 20, 21, 22, 23, 24, 25, 26, 27, 28, 29, 30, 31, 32, 33, 34, 35, 36, 37, 38, 39, 40, 54, 55, 56, 57, 58, 59, 60, 61, 62, 63, 64, 65, 66, 41, 42, 43, 44, 45, 46, 47, 48, 49, 50, 51, 52, 53] (by decide +kernel) (by decide +kernel)
set_option maxRecDepth 20000 in
theorem gX12_knows_X12_known : GoodIn wsX12_knows (wsV RX12 309 RX12 yX12_known wsX12_known) := goodIn_app (goodIn_of _ (by decide +kernel)) ggX12_knows_X12_known
theorem dX12_knows_0 : decode cX12_knows 0 = .ok (.iload_n 1, 1) := by decide +kernel
theorem dX12_knows_1 : decode cX12_knows 1 = .ok (.ifCond .lt 26, 3) := by decide +kernel
theorem dX12_knows_4 : decode cX12_knows 4 = .ok (.iload_n 1, 1) := by decide +kernel
theorem dX12_knows_5 : decode cX12_knows 5 = .ok (.aload_n 0, 1) := by decide +kernel
theorem dX12_knows_6 : decode cX12_knows 6 = .ok (.getfield 76, 3) := by decide +kernel
theorem dX12_knows_9 : decode cX12_knows 9 = .ok (.getfield 182, 3) := by decide +kernel
theorem dX12_knows_12 : decode cX12_knows 12 = .ok (.if_icmp .ge 15, 3) := by decide +kernel
theorem dX12_knows_15 : decode cX12_knows 15 = .ok (.aload_n 0, 1) := by decide +kernel
theorem dX12_knows_16 : decode cX12_knows 16 = .ok (.iload_n 2, 1) := by decide +kernel
theorem dX12_knows_17 : decode cX12_knows 17 = .ok (.invokevirtual 253, 3) := by decide +kernel
theorem dX12_knows_20 : decode cX12_knows 20 = .ok (.ifCond .eq 7, 3) := by decide +kernel
theorem dX12_knows_23 : decode cX12_knows 23 = .ok (.iconst 1, 1) := by decide +kernel
theorem dX12_knows_24 : decode cX12_knows 24 = .ok (.goto 4, 3) := by decide +kernel
theorem dX12_knows_27 : decode cX12_knows 27 = .ok (.iconst 0, 1) := by decide +kernel
theorem dX12_knows_28 : decode cX12_knows 28 = .ok (.istore_n 3, 1) := by decide +kernel
theorem dX12_knows_29 : decode cX12_knows 29 = .ok (.iload_n 3, 1) := by decide +kernel
theorem dX12_knows_30 : decode cX12_knows 30 = .ok (.ifCond .eq 12, 3) := by decide +kernel
theorem dX12_knows_33 : decode cX12_knows 33 = .ok (.aload_n 0, 1) := by decide +kernel
theorem dX12_knows_34 : decode cX12_knows 34 = .ok (.iload_n 1, 1) := by decide +kernel
theorem dX12_knows_35 : decode cX12_knows 35 = .ok (.iload_n 2, 1) := by decide +kernel
theorem dX12_knows_36 : decode cX12_knows 36 = .ok (.invokevirtual 309, 3) := by decide +kernel
theorem dX12_knows_39 : decode cX12_knows 39 = .ok (.goto 4, 3) := by decide +kernel
theorem dX12_knows_42 : decode cX12_knows 42 = .ok (.iconst (-1), 1) := by decide +kernel
theorem dX12_knows_43 : decode cX12_knows 43 = .ok (.ireturn, 1) := by decide +kernel
set_option maxRecDepth 20000 in
theorem ggX12_depth_X12_areThere : GoodIn wsX12_depth wsX12_areThere := goodIn_r _ [5, 6, 7, 26, 27, 28, 29, 30, 31, 32, 33, 34, 35, 36, 37, 38, 39, 40, 41, 42, 43, 44, 45, 46, 47, 48, 49, 50, 51, 52, 53, 54, 55, 56, 57] (by decide +kernel) (by decide +kernel)
set_option maxRecDepth 20000 in
theorem gX12_depth_X12_areThere : GoodIn wsX12_depth (wsV RX12 253 RX12 yX12_areThere wsX12_areThere) := goodIn_app (goodIn_of _ (by decide +kernel)) ggX12_depth_X12_areThere
set_option maxRecDepth 20000 in
theorem ggX12_depth_X12_knownTo : GoodIn wsX12_depth wsX12_knownTo := goodIn_r _ [11, 12, 13, 14, 15, 16, 4, 17, 6, 7, 18, 19, 20, 21, 22, 23, 24, 25, 26, 27, 28, 29, 30, 31, 32, 33, 34, 35, 36, 37, 38, 39, 40, 41, 42, 43, 44, 58, 59, 60, 61, 62, 63, 64, 65, 66, 67, 68, 69, 70, 45, 46, 47, 48, 49, 50, 51, 52, 53, 54, 55, 56, 57] (by decide +kernel) (by decide +kernel)
set_option maxRecDepth 20000 in
theorem gX12_depth_X12_knownTo : GoodIn wsX12_depth (wsV RX12 312 RX12 yX12_knownTo wsX12_knownTo) := goodIn_app (goodIn_of _ (by decide +kernel)) ggX12_depth_X12_knownTo
theorem dX12_depth_0 : decode cX12_depth 0 = .ok (.aload_n 0, 1) := by decide +kernel
theorem dX12_depth_1 : decode cX12_depth 1 = .ok (.iload_n 1, 1) := by decide +kernel
theorem dX12_depth_2 : decode cX12_depth 2 = .ok (.invokevirtual 253, 3) := by decide +kernel
theorem dX12_depth_5 : decode cX12_depth 5 = .ok (.ifCond .eq 14, 3) := by decide +kernel
theorem dX12_depth_8 : decode cX12_depth 8 = .ok (.iload_n 2, 1) := by decide +kernel
theorem dX12_depth_9 : decode cX12_depth 9 = .ok (.iconst 1, 1) := by decide +kernel
theorem dX12_depth_10 : decode cX12_depth 10 = .ok (.if_icmp .lt 9, 3) := by decide +kernel
theorem dX12_depth_13 : decode cX12_depth 13 = .ok (.iload_n 2, 1) := by decide +kernel
theorem dX12_depth_14 : decode cX12_depth 14 = .ok (.bipush 9, 2) := by decide +kernel
theorem dX12_depth_16 : decode cX12_depth 16 = .ok (.if_icmp .le 5, 3) := by decide +kernel
theorem dX12_depth_19 : decode cX12_depth 19 = .ok (.iconst (-1), 1) := by decide +kernel
theorem dX12_depth_20 : decode cX12_depth 20 = .ok (.ireturn, 1) := by decide +kernel
theorem dX12_depth_21 : decode cX12_depth 21 = .ok (.aload_n 0, 1) := by decide +kernel
theorem dX12_depth_22 : decode cX12_depth 22 = .ok (.iload_n 1, 1) := by decide +kernel
theorem dX12_depth_23 : decode cX12_depth 23 = .ok (.iload_n 2, 1) := by decide +kernel
theorem dX12_depth_24 : decode cX12_depth 24 = .ok (.invokevirtual 312, 3) := by decide +kernel
theorem dX12_depth_27 : decode cX12_depth 27 = .ok (.ireturn, 1) := by decide +kernel
set_option maxRecDepth 20000 in
theorem ggX12_common_X12_areThere : GoodIn wsX12_common wsX12_areThere := goodIn_r _ [5, 6, 7, 26, 27, 28, 29, 30, 31, 32, 33, 34, 35, 36, 37, 38, 39, 40, 41, 42, 43, 44, 45, 46, 47, 48, 49, 50, 51, 52, 53, 54, 55, 56, 57] (by decide +kernel) (by decide +kernel)
set_option maxRecDepth 20000 in
theorem gX12_common_X12_areThere : GoodIn wsX12_common (wsV RX12 253 RX12 yX12_areThere wsX12_areThere) := goodIn_app (goodIn_of _ (by decide +kernel)) ggX12_common_X12_areThere
set_option maxRecDepth 20000 in
theorem ggX12_common_X12_knownTo : GoodIn wsX12_common wsX12_knownTo := goodIn_r _ [11, 12, 13, 14, 15, 16, 4, 17, 6, 7, 18, 19, 20, 21, 22, 23, 24, 25, 26, 27, 28, 29, 30, 31, 32, 33, 34, 35, 36, 37, 38, 39, 40, 41, 42, 43, 44, 58, 59, 60, 61, 62, 63, 64, 65, 66, 67, 68, 69, 70, 45, 46, 47, 48, 49, 50, 51, 52, 53, 54, 55, 56, 57] (by decide +kernel) (by decide +kernel)
set_option maxRecDepth 20000 in
theorem gX12_common_X12_knownTo : GoodIn wsX12_common (wsV RX12 312 RX12 yX12_knownTo wsX12_knownTo) := goodIn_app (goodIn_of _ (by decide +kernel)) ggX12_common_X12_knownTo
theorem dX12_common_0 : decode cX12_common 0 = .ok (.aload_n 0, 1) := by decide +kernel
theorem dX12_common_1 : decode cX12_common 1 = .ok (.iload_n 1, 1) := by decide +kernel
theorem dX12_common_2 : decode cX12_common 2 = .ok (.invokevirtual 253, 3) := by decide +kernel
theorem dX12_common_5 : decode cX12_common 5 = .ok (.ifCond .eq 13, 3) := by decide +kernel
theorem dX12_common_8 : decode cX12_common 8 = .ok (.aload_n 0, 1) := by decide +kernel
theorem dX12_common_9 : decode cX12_common 9 = .ok (.iload_n 1, 1) := by decide +kernel
theorem dX12_common_10 : decode cX12_common 10 = .ok (.bipush 8, 2) := by decide +kernel
theorem dX12_common_12 : decode cX12_common 12 = .ok (.invokevirtual 312, 3) := by decide +kernel
theorem dX12_common_15 : decode cX12_common 15 = .ok (.goto 4, 3) := by decide +kernel
theorem dX12_common_18 : decode cX12_common 18 = .ok (.iconst (-1), 1) := by decide +kernel
theorem dX12_common_19 : decode cX12_common 19 = .ok (.ireturn, 1) := by decide +kernel
set_option maxRecDepth 20000 in
theorem ggX12_known_X3_alike : GoodIn wsX12_known wsX3_alike := goodIn_r _ [9, 10, 11, 31, 32, 33, 34, 35, 36, 37, 38, 39, 40, 41, 42, 43] (by decide +kernel) (by decide +kernel)
set_option maxRecDepth 20000 in
theorem gX12_known_X3_alike : GoodIn wsX12_known (wsV RX12 318 RX3 yX3_alike wsX3_alike) := goodIn_app (goodIn_of _ (by decide +kernel)) ggX12_known_X3_alike
theorem dX12_known_0 : decode cX12_known 0 = .ok (.iconst 0, 1) := by decide +kernel
theorem dX12_known_1 : decode cX12_known 1 = .ok (.istore_n 3, 1) := by decide +kernel
theorem dX12_known_2 : decode cX12_known 2 = .ok (.iconst 0, 1) := by decide +kernel
theorem dX12_known_3 : decode cX12_known 3 = .ok (.istore 4, 2) := by decide +kernel
theorem dX12_known_5 : decode cX12_known 5 = .ok (.iload 4, 2) := by decide +kernel
theorem dX12_known_7 : decode cX12_known 7 = .ok (.aload_n 0, 1) := by decide +kernel
theorem dX12_known_8 : decode cX12_known 8 = .ok (.getfield 28, 3) := by decide +kernel
theorem dX12_known_11 : decode cX12_known 11 = .ok (.getfield 176, 3) := by decide +kernel
theorem dX12_known_14 : decode cX12_known 14 = .ok (.if_icmp .ge 41, 3) := by decide +kernel
theorem dX12_known_17 : decode cX12_known 17 = .ok (.aload_n 0, 1) := by decide +kernel
theorem dX12_known_18 : decode cX12_known 18 = .ok (.getfield 28, 3) := by decide +kernel
theorem dX12_known_21 : decode cX12_known 21 = .ok (.iload 4, 2) := by decide +kernel
theorem dX12_known_23 : decode cX12_known 23 = .ok (.aload_n 0, 1) := by decide +kernel
theorem dX12_known_24 : decode cX12_known 24 = .ok (.getfield 76, 3) := by decide +kernel
theorem dX12_known_27 : decode cX12_known 27 = .ok (.getfield 315, 3) := by decide +kernel
theorem dX12_known_30 : decode cX12_known 30 = .ok (.iload_n 1, 1) := by decide +kernel
theorem dX12_known_31 : decode cX12_known 31 = .ok (.iaload, 1) := by decide +kernel
theorem dX12_known_32 : decode cX12_known 32 = .ok (.invokevirtual 318, 3) := by decide +kernel
theorem dX12_known_35 : decode cX12_known 35 = .ok (.iload_n 2, 1) := by decide +kernel
theorem dX12_known_36 : decode cX12_known 36 = .ok (.iconst (-1), 1) := by decide +kernel
theorem dX12_known_37 : decode cX12_known 37 = .ok (.ixor, 1) := by decide +kernel
theorem dX12_known_38 : decode cX12_known 38 = .ok (.iand, 1) := by decide +kernel
theorem dX12_known_39 : decode cX12_known 39 = .ok (.ifCond .ne 10, 3) := by decide +kernel
theorem dX12_known_42 : decode cX12_known 42 = .ok (.iload_n 3, 1) := by decide +kernel
theorem dX12_known_43 : decode cX12_known 43 = .ok (.iconst 1, 1) := by decide +kernel
theorem dX12_known_44 : decode cX12_known 44 = .ok (.iload 4, 2) := by decide +kernel
theorem dX12_known_46 : decode cX12_known 46 = .ok (.ishl, 1) := by decide +kernel
theorem dX12_known_47 : decode cX12_known 47 = .ok (.ior, 1) := by decide +kernel
theorem dX12_known_48 : decode cX12_known 48 = .ok (.istore_n 3, 1) := by decide +kernel
theorem dX12_known_49 : decode cX12_known 49 = .ok (.iinc 4 1, 3) := by decide +kernel
theorem dX12_known_52 : decode cX12_known 52 = .ok (.goto (-47), 3) := by decide +kernel
theorem dX12_known_55 : decode cX12_known 55 = .ok (.iload_n 3, 1) := by decide +kernel
theorem dX12_known_56 : decode cX12_known 56 = .ok (.ireturn, 1) := by decide +kernel
set_option maxRecDepth 20000 in
theorem ggX12_knownTo_X12_known : GoodIn wsX12_knownTo wsX12_known := goodIn_r _ [7, 8, 9, 1, 10, 11, 12, 13, 14, 15, 16, 17, 18, 19, 20, 21, 22, 23, 24, 25, 26, 27, 28, 29, 30, 31, 32, 33, 34, 35, 36, 50, 51, 52, 53, 54, 55, 56, 57, 58, 59, 60, 61, 62, 37, 38, 39, 40, 41, 42, 43, 44, 45, 46, 47, 48, 49] (by decide +kernel) (by decide +kernel)
set_option maxRecDepth 20000 in
theorem gX12_knownTo_X12_known : GoodIn wsX12_knownTo (wsV RX12 309 RX12 yX12_known wsX12_known) := goodIn_app (goodIn_of _ (by decide +kernel)) ggX12_knownTo_X12_known
theorem dX12_knownTo_0 : decode cX12_knownTo 0 = .ok (.iload_n 1, 1) := by decide +kernel
theorem dX12_knownTo_1 : decode cX12_knownTo 1 = .ok (.istore_n 3, 1) := by decide +kernel
theorem dX12_knownTo_2 : decode cX12_knownTo 2 = .ok (.iconst 0, 1) := by decide +kernel
theorem dX12_knownTo_3 : decode cX12_knownTo 3 = .ok (.istore 4, 2) := by decide +kernel
theorem dX12_knownTo_5 : decode cX12_knownTo 5 = .ok (.iload 4, 2) := by decide +kernel
theorem dX12_knownTo_7 : decode cX12_knownTo 7 = .ok (.iload_n 2, 1) := by decide +kernel
theorem dX12_knownTo_8 : decode cX12_knownTo 8 = .ok (.if_icmp .ge 44, 3) := by decide +kernel
theorem dX12_knownTo_11 : decode cX12_knownTo 11 = .ok (.iload_n 3, 1) := by decide +kernel
theorem dX12_knownTo_12 : decode cX12_knownTo 12 = .ok (.istore 5, 2) := by decide +kernel
theorem dX12_knownTo_14 : decode cX12_knownTo 14 = .ok (.iconst 0, 1) := by decide +kernel
theorem dX12_knownTo_15 : decode cX12_knownTo 15 = .ok (.istore 6, 2) := by decide +kernel
theorem dX12_knownTo_17 : decode cX12_knownTo 17 = .ok (.iload 6, 2) := by decide +kernel
theorem dX12_knownTo_19 : decode cX12_knownTo 19 = .ok (.aload_n 0, 1) := by decide +kernel
theorem dX12_knownTo_20 : decode cX12_knownTo 20 = .ok (.getfield 76, 3) := by decide +kernel
theorem dX12_knownTo_23 : decode cX12_knownTo 23 = .ok (.getfield 182, 3) := by decide +kernel
theorem dX12_knownTo_26 : decode cX12_knownTo 26 = .ok (.if_icmp .ge 20, 3) := by decide +kernel
theorem dX12_knownTo_29 : decode cX12_knownTo 29 = .ok (.iload_n 3, 1) := by decide +kernel
theorem dX12_knownTo_30 : decode cX12_knownTo 30 = .ok (.aload_n 0, 1) := by decide +kernel
theorem dX12_knownTo_31 : decode cX12_knownTo 31 = .ok (.iload 6, 2) := by decide +kernel
theorem dX12_knownTo_33 : decode cX12_knownTo 33 = .ok (.iload 5, 2) := by decide +kernel
theorem dX12_knownTo_35 : decode cX12_knownTo 35 = .ok (.invokevirtual 309, 3) := by decide +kernel
theorem dX12_knownTo_38 : decode cX12_knownTo 38 = .ok (.iand, 1) := by decide +kernel
theorem dX12_knownTo_39 : decode cX12_knownTo 39 = .ok (.istore_n 3, 1) := by decide +kernel
theorem dX12_knownTo_40 : decode cX12_knownTo 40 = .ok (.iinc 6 1, 3) := by decide +kernel
theorem dX12_knownTo_43 : decode cX12_knownTo 43 = .ok (.goto (-26), 3) := by decide +kernel
theorem dX12_knownTo_46 : decode cX12_knownTo 46 = .ok (.iinc 4 1, 3) := by decide +kernel
theorem dX12_knownTo_49 : decode cX12_knownTo 49 = .ok (.goto (-44), 3) := by decide +kernel
theorem dX12_knownTo_52 : decode cX12_knownTo 52 = .ok (.iload_n 3, 1) := by decide +kernel
theorem dX12_knownTo_53 : decode cX12_knownTo 53 = .ok (.ireturn, 1) := by decide +kernel
theorem dX12_rests_0 : decode cX12_rests 0 = .ok (.iload_n 1, 1) := by decide +kernel
theorem dX12_rests_1 : decode cX12_rests 1 = .ok (.ifCond .lt 25, 3) := by decide +kernel
theorem dX12_rests_4 : decode cX12_rests 4 = .ok (.iload_n 1, 1) := by decide +kernel
theorem dX12_rests_5 : decode cX12_rests 5 = .ok (.bipush 10, 2) := by decide +kernel
theorem dX12_rests_7 : decode cX12_rests 7 = .ok (.if_icmp .ge 19, 3) := by decide +kernel
theorem dX12_rests_10 : decode cX12_rests 10 = .ok (.iload_n 2, 1) := by decide +kernel
theorem dX12_rests_11 : decode cX12_rests 11 = .ok (.ifCond .lt 15, 3) := by decide +kernel
theorem dX12_rests_14 : decode cX12_rests 14 = .ok (.iload_n 2, 1) := by decide +kernel
theorem dX12_rests_15 : decode cX12_rests 15 = .ok (.bipush 10, 2) := by decide +kernel
theorem dX12_rests_17 : decode cX12_rests 17 = .ok (.if_icmp .ge 9, 3) := by decide +kernel
theorem dX12_rests_20 : decode cX12_rests 20 = .ok (.iload 4, 2) := by decide +kernel
theorem dX12_rests_22 : decode cX12_rests 22 = .ok (.iconst (-1), 1) := by decide +kernel
theorem dX12_rests_23 : decode cX12_rests 23 = .ok (.if_icmp .ge 14, 3) := by decide +kernel
theorem dX12_rests_26 : decode cX12_rests 26 = .ok (.new 321, 3) := by decide +kernel
theorem dX12_rests_29 : decode cX12_rests 29 = .ok (.dup, 1) := by decide +kernel
theorem dX12_rests_30 : decode cX12_rests 30 = .ok (.ldc_w 323, 3) := by decide +kernel
theorem dX12_rests_33 : decode cX12_rests 33 = .ok (.invokespecial 325, 3) := by decide +kernel
theorem dX12_rests_36 : decode cX12_rests 36 = .ok (.athrow, 1) := by decide +kernel
theorem dX12_rests_37 : decode cX12_rests 37 = .ok (.iconst 0, 1) := by decide +kernel
theorem dX12_rests_38 : decode cX12_rests 38 = .ok (.istore 5, 2) := by decide +kernel
theorem dX12_rests_40 : decode cX12_rests 40 = .ok (.iconst 0, 1) := by decide +kernel
theorem dX12_rests_41 : decode cX12_rests 41 = .ok (.istore 6, 2) := by decide +kernel
theorem dX12_rests_43 : decode cX12_rests 43 = .ok (.iload 6, 2) := by decide +kernel
theorem dX12_rests_45 : decode cX12_rests 45 = .ok (.bipush 100, 2) := by decide +kernel
theorem dX12_rests_47 : decode cX12_rests 47 = .ok (.if_icmp .ge 41, 3) := by decide +kernel
theorem dX12_rests_50 : decode cX12_rests 50 = .ok (.iload_n 1, 1) := by decide +kernel
theorem dX12_rests_51 : decode cX12_rests 51 = .ok (.iload_n 2, 1) := by decide +kernel
theorem dX12_rests_52 : decode cX12_rests 52 = .ok (.iload_n 3, 1) := by decide +kernel
theorem dX12_rests_53 : decode cX12_rests 53 = .ok (.iload 6, 2) := by decide +kernel
theorem dX12_rests_55 : decode cX12_rests 55 = .ok (.bipush 10, 2) := by decide +kernel
theorem dX12_rests_57 : decode cX12_rests 57 = .ok (.idiv, 1) := by decide +kernel
theorem dX12_rests_58 : decode cX12_rests 58 = .ok (.iload 6, 2) := by decide +kernel
theorem dX12_rests_60 : decode cX12_rests 60 = .ok (.bipush 10, 2) := by decide +kernel
theorem dX12_rests_62 : decode cX12_rests 62 = .ok (.irem, 1) := by decide +kernel
theorem dX12_rests_63 : decode cX12_rests 63 = .ok (.invokestatic 328, 3) := by decide +kernel
theorem dX12_rests_66 : decode cX12_rests 66 = .ok (.ifCond .eq 16, 3) := by decide +kernel
theorem dX12_rests_69 : decode cX12_rests 69 = .ok (.iload 5, 2) := by decide +kernel
theorem dX12_rests_71 : decode cX12_rests 71 = .ok (.iload 4, 2) := by decide +kernel
theorem dX12_rests_73 : decode cX12_rests 73 = .ok (.if_icmp .ne 6, 3) := by decide +kernel
theorem dX12_rests_76 : decode cX12_rests 76 = .ok (.iload 6, 2) := by decide +kernel
theorem dX12_rests_78 : decode cX12_rests 78 = .ok (.ireturn, 1) := by decide +kernel
theorem dX12_rests_79 : decode cX12_rests 79 = .ok (.iinc 5 1, 3) := by decide +kernel
theorem dX12_rests_82 : decode cX12_rests 82 = .ok (.iinc 6 1, 3) := by decide +kernel
theorem dX12_rests_85 : decode cX12_rests 85 = .ok (.goto (-42), 3) := by decide +kernel
theorem dX12_rests_88 : decode cX12_rests 88 = .ok (.iload 4, 2) := by decide +kernel
theorem dX12_rests_90 : decode cX12_rests 90 = .ok (.iconst (-1), 1) := by decide +kernel
theorem dX12_rests_91 : decode cX12_rests 91 = .ok (.if_icmp .eq 14, 3) := by decide +kernel
theorem dX12_rests_94 : decode cX12_rests 94 = .ok (.new 321, 3) := by decide +kernel
theorem dX12_rests_97 : decode cX12_rests 97 = .ok (.dup, 1) := by decide +kernel
theorem dX12_rests_98 : decode cX12_rests 98 = .ok (.ldc_w 332, 3) := by decide +kernel
theorem dX12_rests_101 : decode cX12_rests 101 = .ok (.invokespecial 325, 3) := by decide +kernel
theorem dX12_rests_104 : decode cX12_rests 104 = .ok (.athrow, 1) := by decide +kernel
theorem dX12_rests_105 : decode cX12_rests 105 = .ok (.iload 5, 2) := by decide +kernel
theorem dX12_rests_107 : decode cX12_rests 107 = .ok (.ireturn, 1) := by decide +kernel
set_option maxRecDepth 20000 in
theorem ggX12_isRest_X12_firstGain : GoodIn wsX12_isRest wsX12_firstGain := goodIn_r _ [4] (by decide +kernel) (by decide +kernel)
set_option maxRecDepth 20000 in
theorem gX12_isRest_X12_firstGain : GoodIn wsX12_isRest (va_wsS RX12 334 yX12_firstGain wsX12_firstGain) := goodIn_app (goodIn_of _ (by decide +kernel)) ggX12_isRest_X12_firstGain
set_option maxRecDepth 20000 in
theorem ggX12_isRest_X12_secondGain : GoodIn wsX12_isRest wsX12_secondGain := goodIn_r _ [7] (by decide +kernel) (by decide +kernel)
set_option maxRecDepth 20000 in
theorem gX12_isRest_X12_secondGain : GoodIn wsX12_isRest (va_wsS RX12 338 yX12_secondGain wsX12_secondGain) := goodIn_app (goodIn_of _ (by decide +kernel)) ggX12_isRest_X12_secondGain
theorem dX12_isRest_0 : decode cX12_isRest 0 = .ok (.iload_n 0, 1) := by decide +kernel
theorem dX12_isRest_1 : decode cX12_isRest 1 = .ok (.iload_n 2, 1) := by decide +kernel
theorem dX12_isRest_2 : decode cX12_isRest 2 = .ok (.iload_n 3, 1) := by decide +kernel
theorem dX12_isRest_3 : decode cX12_isRest 3 = .ok (.iload 4, 2) := by decide +kernel
theorem dX12_isRest_5 : decode cX12_isRest 5 = .ok (.invokestatic 334, 3) := by decide +kernel
theorem dX12_isRest_8 : decode cX12_isRest 8 = .ok (.istore 5, 2) := by decide +kernel
theorem dX12_isRest_10 : decode cX12_isRest 10 = .ok (.iload_n 1, 1) := by decide +kernel
theorem dX12_isRest_11 : decode cX12_isRest 11 = .ok (.iload_n 2, 1) := by decide +kernel
theorem dX12_isRest_12 : decode cX12_isRest 12 = .ok (.iload_n 3, 1) := by decide +kernel
theorem dX12_isRest_13 : decode cX12_isRest 13 = .ok (.iload 4, 2) := by decide +kernel
theorem dX12_isRest_15 : decode cX12_isRest 15 = .ok (.invokestatic 338, 3) := by decide +kernel
theorem dX12_isRest_18 : decode cX12_isRest 18 = .ok (.istore 6, 2) := by decide +kernel
theorem dX12_isRest_20 : decode cX12_isRest 20 = .ok (.iconst 0, 1) := by decide +kernel
theorem dX12_isRest_21 : decode cX12_isRest 21 = .ok (.istore 7, 2) := by decide +kernel
theorem dX12_isRest_23 : decode cX12_isRest 23 = .ok (.iload 7, 2) := by decide +kernel
theorem dX12_isRest_25 : decode cX12_isRest 25 = .ok (.bipush 10, 2) := by decide +kernel
theorem dX12_isRest_27 : decode cX12_isRest 27 = .ok (.if_icmp .ge 50, 3) := by decide +kernel
theorem dX12_isRest_30 : decode cX12_isRest 30 = .ok (.iload_n 0, 1) := by decide +kernel
theorem dX12_isRest_31 : decode cX12_isRest 31 = .ok (.iload_n 2, 1) := by decide +kernel
theorem dX12_isRest_32 : decode cX12_isRest 32 = .ok (.iload 7, 2) := by decide +kernel
theorem dX12_isRest_34 : decode cX12_isRest 34 = .ok (.iload 4, 2) := by decide +kernel
theorem dX12_isRest_36 : decode cX12_isRest 36 = .ok (.invokestatic 334, 3) := by decide +kernel
theorem dX12_isRest_39 : decode cX12_isRest 39 = .ok (.iload 5, 2) := by decide +kernel
theorem dX12_isRest_41 : decode cX12_isRest 41 = .ok (.if_icmp .le 7, 3) := by decide +kernel
theorem dX12_isRest_44 : decode cX12_isRest 44 = .ok (.iconst 1, 1) := by decide +kernel
theorem dX12_isRest_45 : decode cX12_isRest 45 = .ok (.goto 4, 3) := by decide +kernel
theorem dX12_isRest_48 : decode cX12_isRest 48 = .ok (.iconst 0, 1) := by decide +kernel
theorem dX12_isRest_49 : decode cX12_isRest 49 = .ok (.istore 8, 2) := by decide +kernel
theorem dX12_isRest_51 : decode cX12_isRest 51 = .ok (.iload 8, 2) := by decide +kernel
theorem dX12_isRest_53 : decode cX12_isRest 53 = .ok (.ifCond .ne 16, 3) := by decide +kernel
theorem dX12_isRest_56 : decode cX12_isRest 56 = .ok (.iload_n 1, 1) := by decide +kernel
theorem dX12_isRest_57 : decode cX12_isRest 57 = .ok (.iload_n 2, 1) := by decide +kernel
theorem dX12_isRest_58 : decode cX12_isRest 58 = .ok (.iload_n 3, 1) := by decide +kernel
theorem dX12_isRest_59 : decode cX12_isRest 59 = .ok (.iload 7, 2) := by decide +kernel
theorem dX12_isRest_61 : decode cX12_isRest 61 = .ok (.invokestatic 338, 3) := by decide +kernel
theorem dX12_isRest_64 : decode cX12_isRest 64 = .ok (.iload 6, 2) := by decide +kernel
theorem dX12_isRest_66 : decode cX12_isRest 66 = .ok (.if_icmp .le 5, 3) := by decide +kernel
theorem dX12_isRest_69 : decode cX12_isRest 69 = .ok (.iconst 0, 1) := by decide +kernel
theorem dX12_isRest_70 : decode cX12_isRest 70 = .ok (.ireturn, 1) := by decide +kernel
theorem dX12_isRest_71 : decode cX12_isRest 71 = .ok (.iinc 7 1, 3) := by decide +kernel
theorem dX12_isRest_74 : decode cX12_isRest 74 = .ok (.goto (-51), 3) := by decide +kernel
theorem dX12_isRest_77 : decode cX12_isRest 77 = .ok (.iconst 1, 1) := by decide +kernel
theorem dX12_isRest_78 : decode cX12_isRest 78 = .ok (.ireturn, 1) := by decide +kernel
theorem dX12_firstGain_0 : decode cX12_firstGain 0 = .ok (.iload_n 2, 1) := by decide +kernel
theorem dX12_firstGain_1 : decode cX12_firstGain 1 = .ok (.iload_n 3, 1) := by decide +kernel
theorem dX12_firstGain_2 : decode cX12_firstGain 2 = .ok (.if_icmp .lt 17, 3) := by decide +kernel
theorem dX12_firstGain_5 : decode cX12_firstGain 5 = .ok (.iload_n 0, 1) := by decide +kernel
theorem dX12_firstGain_6 : decode cX12_firstGain 6 = .ok (.iload_n 1, 1) := by decide +kernel
theorem dX12_firstGain_7 : decode cX12_firstGain 7 = .ok (.ifCond .eq 7, 3) := by decide +kernel
theorem dX12_firstGain_10 : decode cX12_firstGain 10 = .ok (.iload_n 2, 1) := by decide +kernel
theorem dX12_firstGain_11 : decode cX12_firstGain 11 = .ok (.goto 4, 3) := by decide +kernel
theorem dX12_firstGain_14 : decode cX12_firstGain 14 = .ok (.iload_n 3, 1) := by decide +kernel
theorem dX12_firstGain_15 : decode cX12_firstGain 15 = .ok (.isub, 1) := by decide +kernel
theorem dX12_firstGain_16 : decode cX12_firstGain 16 = .ok (.goto 4, 3) := by decide +kernel
theorem dX12_firstGain_19 : decode cX12_firstGain 19 = .ok (.iconst 0, 1) := by decide +kernel
theorem dX12_firstGain_20 : decode cX12_firstGain 20 = .ok (.ireturn, 1) := by decide +kernel
theorem dX12_secondGain_0 : decode cX12_secondGain 0 = .ok (.iload_n 3, 1) := by decide +kernel
theorem dX12_secondGain_1 : decode cX12_secondGain 1 = .ok (.iload_n 2, 1) := by decide +kernel
theorem dX12_secondGain_2 : decode cX12_secondGain 2 = .ok (.if_icmp .le 17, 3) := by decide +kernel
theorem dX12_secondGain_5 : decode cX12_secondGain 5 = .ok (.iload_n 0, 1) := by decide +kernel
theorem dX12_secondGain_6 : decode cX12_secondGain 6 = .ok (.iload_n 1, 1) := by decide +kernel
theorem dX12_secondGain_7 : decode cX12_secondGain 7 = .ok (.ifCond .eq 7, 3) := by decide +kernel
theorem dX12_secondGain_10 : decode cX12_secondGain 10 = .ok (.iload_n 3, 1) := by decide +kernel
theorem dX12_secondGain_11 : decode cX12_secondGain 11 = .ok (.goto 4, 3) := by decide +kernel
theorem dX12_secondGain_14 : decode cX12_secondGain 14 = .ok (.iload_n 2, 1) := by decide +kernel
theorem dX12_secondGain_15 : decode cX12_secondGain 15 = .ok (.isub, 1) := by decide +kernel
theorem dX12_secondGain_16 : decode cX12_secondGain 16 = .ok (.goto 4, 3) := by decide +kernel
theorem dX12_secondGain_19 : decode cX12_secondGain 19 = .ok (.iconst 0, 1) := by decide +kernel
theorem dX12_secondGain_20 : decode cX12_secondGain 20 = .ok (.ireturn, 1) := by decide +kernel
set_option maxRecDepth 20000 in
theorem ggX12_watch_X12_setWatches : GoodIn wsX12_watch wsX12_setWatches := goodIn_r _ [8, 1, 2, 9, 10, 11, 12, 13, 14, 15, 16, 17, 18, 19, 20, 21, 7, 22, 23, 24, 25, 26, 27, 28, 29, 30, 31, 32, 33, 34, 35, 36, 37, 38, 39, 40, 41, 42, 43, 44, 45, 46, 47, 48, 49, 50, 51, 52, 53, 54, 55, 56, 57, 58, 59, 60, 61] (by decide +kernel) (by decide +kernel)
set_option maxRecDepth 20000 in
theorem gX12_watch_X12_setWatches : GoodIn wsX12_watch (wsV RX12 341 RX12 yX12_setWatches wsX12_setWatches) := goodIn_app (goodIn_of _ (by decide +kernel)) ggX12_watch_X12_setWatches
set_option maxRecDepth 20000 in
theorem ggX12_watch_J6_bitCount_0f7a4 : GoodIn wsX12_watch wsJ6_bitCount_0f7a4 := goodIn_r _ [26, 27, 28, 29] (by decide +kernel) (by decide +kernel)
set_option maxRecDepth 20000 in
theorem gX12_watch_J6_bitCount_0f7a4 : GoodIn wsX12_watch (va_wsS RX12 248 yJ6_bitCount_0f7a4 wsJ6_bitCount_0f7a4) := goodIn_app (goodIn_of _ (by decide +kernel)) ggX12_watch_J6_bitCount_0f7a4
set_option maxRecDepth 20000 in
theorem ggX12_watch_X12_isFewer : GoodIn wsX12_watch wsX12_isFewer := goodIn_r _ [22, 23, 24, 25, 26, 27, 28, 29] (by decide +kernel) (by decide +kernel)
set_option maxRecDepth 20000 in
theorem gX12_watch_X12_isFewer : GoodIn wsX12_watch (va_wsS RX12 344 yX12_isFewer wsX12_isFewer) := goodIn_app (goodIn_of _ (by decide +kernel)) ggX12_watch_X12_isFewer
theorem dX12_watch_0 : decode cX12_watch 0 = .ok (.iload_n 1, 1) := by decide +kernel
theorem dX12_watch_1 : decode cX12_watch 1 = .ok (.ifCond .lt 8, 3) := by decide +kernel
theorem dX12_watch_4 : decode cX12_watch 4 = .ok (.iload_n 1, 1) := by decide +kernel
theorem dX12_watch_5 : decode cX12_watch 5 = .ok (.iconst 5, 1) := by decide +kernel
theorem dX12_watch_6 : decode cX12_watch 6 = .ok (.if_icmp .le 5, 3) := by decide +kernel
theorem dX12_watch_9 : decode cX12_watch 9 = .ok (.iconst (-1), 1) := by decide +kernel
theorem dX12_watch_10 : decode cX12_watch 10 = .ok (.ireturn, 1) := by decide +kernel
theorem dX12_watch_11 : decode cX12_watch 11 = .ok (.aload_n 0, 1) := by decide +kernel
theorem dX12_watch_12 : decode cX12_watch 12 = .ok (.invokevirtual 341, 3) := by decide +kernel
theorem dX12_watch_15 : decode cX12_watch 15 = .ok (.iconst (-1), 1) := by decide +kernel
theorem dX12_watch_16 : decode cX12_watch 16 = .ok (.istore_n 2, 1) := by decide +kernel
theorem dX12_watch_17 : decode cX12_watch 17 = .ok (.iconst 0, 1) := by decide +kernel
theorem dX12_watch_18 : decode cX12_watch 18 = .ok (.istore_n 3, 1) := by decide +kernel
theorem dX12_watch_19 : decode cX12_watch 19 = .ok (.iload_n 3, 1) := by decide +kernel
theorem dX12_watch_20 : decode cX12_watch 20 = .ok (.aload_n 0, 1) := by decide +kernel
theorem dX12_watch_21 : decode cX12_watch 21 = .ok (.getfield 63, 3) := by decide +kernel
theorem dX12_watch_24 : decode cX12_watch 24 = .ok (.arraylength, 1) := by decide +kernel
theorem dX12_watch_25 : decode cX12_watch 25 = .ok (.if_icmp .ge 67, 3) := by decide +kernel
theorem dX12_watch_28 : decode cX12_watch 28 = .ok (.iload_n 3, 1) := by decide +kernel
theorem dX12_watch_29 : decode cX12_watch 29 = .ok (.invokestatic 248, 3) := by decide +kernel
theorem dX12_watch_32 : decode cX12_watch 32 = .ok (.aload_n 0, 1) := by decide +kernel
theorem dX12_watch_33 : decode cX12_watch 33 = .ok (.getfield 76, 3) := by decide +kernel
theorem dX12_watch_36 : decode cX12_watch 36 = .ok (.getfield 179, 3) := by decide +kernel
theorem dX12_watch_39 : decode cX12_watch 39 = .ok (.iload_n 1, 1) := by decide +kernel
theorem dX12_watch_40 : decode cX12_watch 40 = .ok (.isub, 1) := by decide +kernel
theorem dX12_watch_41 : decode cX12_watch 41 = .ok (.if_icmp .lt 7, 3) := by decide +kernel
theorem dX12_watch_44 : decode cX12_watch 44 = .ok (.iconst 1, 1) := by decide +kernel
theorem dX12_watch_45 : decode cX12_watch 45 = .ok (.goto 4, 3) := by decide +kernel
theorem dX12_watch_48 : decode cX12_watch 48 = .ok (.iconst 0, 1) := by decide +kernel
theorem dX12_watch_49 : decode cX12_watch 49 = .ok (.istore 4, 2) := by decide +kernel
theorem dX12_watch_51 : decode cX12_watch 51 = .ok (.iload 4, 2) := by decide +kernel
theorem dX12_watch_53 : decode cX12_watch 53 = .ok (.ifCond .eq 33, 3) := by decide +kernel
theorem dX12_watch_56 : decode cX12_watch 56 = .ok (.aload_n 0, 1) := by decide +kernel
theorem dX12_watch_57 : decode cX12_watch 57 = .ok (.getfield 63, 3) := by decide +kernel
theorem dX12_watch_60 : decode cX12_watch 60 = .ok (.iload_n 3, 1) := by decide +kernel
theorem dX12_watch_61 : decode cX12_watch 61 = .ok (.iaload, 1) := by decide +kernel
theorem dX12_watch_62 : decode cX12_watch 62 = .ok (.iconst (-1), 1) := by decide +kernel
theorem dX12_watch_63 : decode cX12_watch 63 = .ok (.if_icmp .eq 23, 3) := by decide +kernel
theorem dX12_watch_66 : decode cX12_watch 66 = .ok (.aload_n 0, 1) := by decide +kernel
theorem dX12_watch_67 : decode cX12_watch 67 = .ok (.getfield 63, 3) := by decide +kernel
theorem dX12_watch_70 : decode cX12_watch 70 = .ok (.iload_n 3, 1) := by decide +kernel
theorem dX12_watch_71 : decode cX12_watch 71 = .ok (.iaload, 1) := by decide +kernel
theorem dX12_watch_72 : decode cX12_watch 72 = .ok (.iload_n 2, 1) := by decide +kernel
theorem dX12_watch_73 : decode cX12_watch 73 = .ok (.invokestatic 344, 3) := by decide +kernel
theorem dX12_watch_76 : decode cX12_watch 76 = .ok (.ifCond .eq 10, 3) := by decide +kernel
theorem dX12_watch_79 : decode cX12_watch 79 = .ok (.aload_n 0, 1) := by decide +kernel
theorem dX12_watch_80 : decode cX12_watch 80 = .ok (.getfield 63, 3) := by decide +kernel
theorem dX12_watch_83 : decode cX12_watch 83 = .ok (.iload_n 3, 1) := by decide +kernel
theorem dX12_watch_84 : decode cX12_watch 84 = .ok (.iaload, 1) := by decide +kernel
theorem dX12_watch_85 : decode cX12_watch 85 = .ok (.istore_n 2, 1) := by decide +kernel
theorem dX12_watch_86 : decode cX12_watch 86 = .ok (.iinc 3 1, 3) := by decide +kernel
theorem dX12_watch_89 : decode cX12_watch 89 = .ok (.goto (-70), 3) := by decide +kernel
theorem dX12_watch_92 : decode cX12_watch 92 = .ok (.iload_n 2, 1) := by decide +kernel
theorem dX12_watch_93 : decode cX12_watch 93 = .ok (.ireturn, 1) := by decide +kernel
set_option maxRecDepth 20000 in
theorem ggX12_setWatches_J7_fill_53178 : GoodIn wsX12_setWatches wsJ7_fill_53178 := goodIn_r _ [6] (by decide +kernel) (by decide +kernel)
set_option maxRecDepth 20000 in
theorem gX12_setWatches_J7_fill_53178 : GoodIn wsX12_setWatches (va_wsS RX12 348 yJ7_fill_53178 wsJ7_fill_53178) := goodIn_app (goodIn_of _ (by decide +kernel)) ggX12_setWatches_J7_fill_53178
set_option maxRecDepth 20000 in
theorem ggX12_setWatches_X1_thievesAt : GoodIn wsX12_setWatches wsX1_thievesAt := goodIn_r _ [11, 12, 13, 44, 45, 46, 47, 48, 49, 50, 51, 52, 53, 54, 55, 56] (by decide +kernel) (by decide +kernel)
set_option maxRecDepth 20000 in
theorem gX12_setWatches_X1_thievesAt : GoodIn wsX12_setWatches (wsV RX12 354 RX1 yX1_thievesAt wsX1_thievesAt) := goodIn_app (goodIn_of _ (by decide +kernel)) ggX12_setWatches_X1_thievesAt
set_option maxRecDepth 20000 in
theorem ggX12_setWatches_X12_isFewer : GoodIn wsX12_setWatches wsX12_isFewer := goodIn_r _ [17, 18, 19, 20, 21, 22, 23, 24] (by decide +kernel) (by decide +kernel)
set_option maxRecDepth 20000 in
theorem gX12_setWatches_X12_isFewer : GoodIn wsX12_setWatches (va_wsS RX12 344 yX12_isFewer wsX12_isFewer) := goodIn_app (goodIn_of _ (by decide +kernel)) ggX12_setWatches_X12_isFewer
theorem dX12_setWatches_0 : decode cX12_setWatches 0 = .ok (.aload_n 0, 1) := by decide +kernel
theorem dX12_setWatches_1 : decode cX12_setWatches 1 = .ok (.getfield 63, 3) := by decide +kernel
theorem dX12_setWatches_4 : decode cX12_setWatches 4 = .ok (.iconst (-1), 1) := by decide +kernel
theorem dX12_setWatches_5 : decode cX12_setWatches 5 = .ok (.invokestatic 348, 3) := by decide +kernel
theorem dX12_setWatches_8 : decode cX12_setWatches 8 = .ok (.aload_n 0, 1) := by decide +kernel
theorem dX12_setWatches_9 : decode cX12_setWatches 9 = .ok (.getfield 63, 3) := by decide +kernel
theorem dX12_setWatches_12 : decode cX12_setWatches 12 = .ok (.iconst 0, 1) := by decide +kernel
theorem dX12_setWatches_13 : decode cX12_setWatches 13 = .ok (.iconst 0, 1) := by decide +kernel
theorem dX12_setWatches_14 : decode cX12_setWatches 14 = .ok (.iastore, 1) := by decide +kernel
theorem dX12_setWatches_15 : decode cX12_setWatches 15 = .ok (.iconst 0, 1) := by decide +kernel
theorem dX12_setWatches_16 : decode cX12_setWatches 16 = .ok (.istore_n 1, 1) := by decide +kernel
theorem dX12_setWatches_17 : decode cX12_setWatches 17 = .ok (.iload_n 1, 1) := by decide +kernel
theorem dX12_setWatches_18 : decode cX12_setWatches 18 = .ok (.bipush 24, 2) := by decide +kernel
theorem dX12_setWatches_20 : decode cX12_setWatches 20 = .ok (.if_icmp .ge 98, 3) := by decide +kernel
theorem dX12_setWatches_23 : decode cX12_setWatches 23 = .ok (.aload_n 0, 1) := by decide +kernel
theorem dX12_setWatches_24 : decode cX12_setWatches 24 = .ok (.getfield 76, 3) := by decide +kernel
theorem dX12_setWatches_27 : decode cX12_setWatches 27 = .ok (.iload_n 1, 1) := by decide +kernel
theorem dX12_setWatches_28 : decode cX12_setWatches 28 = .ok (.invokevirtual 354, 3) := by decide +kernel
theorem dX12_setWatches_31 : decode cX12_setWatches 31 = .ok (.istore_n 2, 1) := by decide +kernel
theorem dX12_setWatches_32 : decode cX12_setWatches 32 = .ok (.iconst 0, 1) := by decide +kernel
theorem dX12_setWatches_33 : decode cX12_setWatches 33 = .ok (.istore_n 3, 1) := by decide +kernel
theorem dX12_setWatches_34 : decode cX12_setWatches 34 = .ok (.iload_n 3, 1) := by decide +kernel
theorem dX12_setWatches_35 : decode cX12_setWatches 35 = .ok (.aload_n 0, 1) := by decide +kernel
theorem dX12_setWatches_36 : decode cX12_setWatches 36 = .ok (.getfield 63, 3) := by decide +kernel
theorem dX12_setWatches_39 : decode cX12_setWatches 39 = .ok (.arraylength, 1) := by decide +kernel
theorem dX12_setWatches_40 : decode cX12_setWatches 40 = .ok (.if_icmp .ge 72, 3) := by decide +kernel
theorem dX12_setWatches_43 : decode cX12_setWatches 43 = .ok (.iload_n 3, 1) := by decide +kernel
theorem dX12_setWatches_44 : decode cX12_setWatches 44 = .ok (.iload_n 2, 1) := by decide +kernel
theorem dX12_setWatches_45 : decode cX12_setWatches 45 = .ok (.ior, 1) := by decide +kernel
theorem dX12_setWatches_46 : decode cX12_setWatches 46 = .ok (.aload_n 0, 1) := by decide +kernel
theorem dX12_setWatches_47 : decode cX12_setWatches 47 = .ok (.getfield 63, 3) := by decide +kernel
theorem dX12_setWatches_50 : decode cX12_setWatches 50 = .ok (.arraylength, 1) := by decide +kernel
theorem dX12_setWatches_51 : decode cX12_setWatches 51 = .ok (.iconst 1, 1) := by decide +kernel
theorem dX12_setWatches_52 : decode cX12_setWatches 52 = .ok (.isub, 1) := by decide +kernel
theorem dX12_setWatches_53 : decode cX12_setWatches 53 = .ok (.iand, 1) := by decide +kernel
theorem dX12_setWatches_54 : decode cX12_setWatches 54 = .ok (.istore 4, 2) := by decide +kernel
theorem dX12_setWatches_56 : decode cX12_setWatches 56 = .ok (.aload_n 0, 1) := by decide +kernel
theorem dX12_setWatches_57 : decode cX12_setWatches 57 = .ok (.getfield 63, 3) := by decide +kernel
theorem dX12_setWatches_60 : decode cX12_setWatches 60 = .ok (.iload_n 3, 1) := by decide +kernel
theorem dX12_setWatches_61 : decode cX12_setWatches 61 = .ok (.iaload, 1) := by decide +kernel
theorem dX12_setWatches_62 : decode cX12_setWatches 62 = .ok (.iconst (-1), 1) := by decide +kernel
theorem dX12_setWatches_63 : decode cX12_setWatches 63 = .ok (.if_icmp .eq 43, 3) := by decide +kernel
theorem dX12_setWatches_66 : decode cX12_setWatches 66 = .ok (.aload_n 0, 1) := by decide +kernel
theorem dX12_setWatches_67 : decode cX12_setWatches 67 = .ok (.getfield 63, 3) := by decide +kernel
theorem dX12_setWatches_70 : decode cX12_setWatches 70 = .ok (.iload_n 3, 1) := by decide +kernel
theorem dX12_setWatches_71 : decode cX12_setWatches 71 = .ok (.iaload, 1) := by decide +kernel
theorem dX12_setWatches_72 : decode cX12_setWatches 72 = .ok (.iconst 1, 1) := by decide +kernel
theorem dX12_setWatches_73 : decode cX12_setWatches 73 = .ok (.iload_n 1, 1) := by decide +kernel
theorem dX12_setWatches_74 : decode cX12_setWatches 74 = .ok (.ishl, 1) := by decide +kernel
theorem dX12_setWatches_75 : decode cX12_setWatches 75 = .ok (.ior, 1) := by decide +kernel
theorem dX12_setWatches_76 : decode cX12_setWatches 76 = .ok (.aload_n 0, 1) := by decide +kernel
theorem dX12_setWatches_77 : decode cX12_setWatches 77 = .ok (.getfield 63, 3) := by decide +kernel
theorem dX12_setWatches_80 : decode cX12_setWatches 80 = .ok (.iload 4, 2) := by decide +kernel
theorem dX12_setWatches_82 : decode cX12_setWatches 82 = .ok (.iaload, 1) := by decide +kernel
theorem dX12_setWatches_83 : decode cX12_setWatches 83 = .ok (.invokestatic 344, 3) := by decide +kernel
theorem dX12_setWatches_86 : decode cX12_setWatches 86 = .ok (.ifCond .eq 20, 3) := by decide +kernel
theorem dX12_setWatches_89 : decode cX12_setWatches 89 = .ok (.aload_n 0, 1) := by decide +kernel
theorem dX12_setWatches_90 : decode cX12_setWatches 90 = .ok (.getfield 63, 3) := by decide +kernel
theorem dX12_setWatches_93 : decode cX12_setWatches 93 = .ok (.iload 4, 2) := by decide +kernel
theorem dX12_setWatches_95 : decode cX12_setWatches 95 = .ok (.aload_n 0, 1) := by decide +kernel
theorem dX12_setWatches_96 : decode cX12_setWatches 96 = .ok (.getfield 63, 3) := by decide +kernel
theorem dX12_setWatches_99 : decode cX12_setWatches 99 = .ok (.iload_n 3, 1) := by decide +kernel
theorem dX12_setWatches_100 : decode cX12_setWatches 100 = .ok (.iaload, 1) := by decide +kernel
theorem dX12_setWatches_101 : decode cX12_setWatches 101 = .ok (.iconst 1, 1) := by decide +kernel
theorem dX12_setWatches_102 : decode cX12_setWatches 102 = .ok (.iload_n 1, 1) := by decide +kernel
theorem dX12_setWatches_103 : decode cX12_setWatches 103 = .ok (.ishl, 1) := by decide +kernel
theorem dX12_setWatches_104 : decode cX12_setWatches 104 = .ok (.ior, 1) := by decide +kernel
theorem dX12_setWatches_105 : decode cX12_setWatches 105 = .ok (.iastore, 1) := by decide +kernel
theorem dX12_setWatches_106 : decode cX12_setWatches 106 = .ok (.iinc 3 1, 3) := by decide +kernel
theorem dX12_setWatches_109 : decode cX12_setWatches 109 = .ok (.goto (-75), 3) := by decide +kernel
theorem dX12_setWatches_112 : decode cX12_setWatches 112 = .ok (.iinc 1 1, 3) := by decide +kernel
theorem dX12_setWatches_115 : decode cX12_setWatches 115 = .ok (.goto (-98), 3) := by decide +kernel
theorem dX12_setWatches_118 : decode cX12_setWatches 118 = .ok (.return_, 1) := by decide +kernel
set_option maxRecDepth 20000 in
theorem ggX12_isFewer_J6_bitCount_0f7a4 : GoodIn wsX12_isFewer wsJ6_bitCount_0f7a4 := goodIn_r _ [4, 5, 6, 7] (by decide +kernel) (by decide +kernel)
set_option maxRecDepth 20000 in
theorem gX12_isFewer_J6_bitCount_0f7a4 : GoodIn wsX12_isFewer (va_wsS RX12 248 yJ6_bitCount_0f7a4 wsJ6_bitCount_0f7a4) := goodIn_app (goodIn_of _ (by decide +kernel)) ggX12_isFewer_J6_bitCount_0f7a4
theorem dX12_isFewer_0 : decode cX12_isFewer 0 = .ok (.iload_n 1, 1) := by decide +kernel
theorem dX12_isFewer_1 : decode cX12_isFewer 1 = .ok (.iconst (-1), 1) := by decide +kernel
theorem dX12_isFewer_2 : decode cX12_isFewer 2 = .ok (.if_icmp .ne 5, 3) := by decide +kernel
theorem dX12_isFewer_5 : decode cX12_isFewer 5 = .ok (.iconst 1, 1) := by decide +kernel
theorem dX12_isFewer_6 : decode cX12_isFewer 6 = .ok (.ireturn, 1) := by decide +kernel
theorem dX12_isFewer_7 : decode cX12_isFewer 7 = .ok (.iload_n 0, 1) := by decide +kernel
theorem dX12_isFewer_8 : decode cX12_isFewer 8 = .ok (.invokestatic 248, 3) := by decide +kernel
theorem dX12_isFewer_11 : decode cX12_isFewer 11 = .ok (.iload_n 1, 1) := by decide +kernel
theorem dX12_isFewer_12 : decode cX12_isFewer 12 = .ok (.invokestatic 248, 3) := by decide +kernel
theorem dX12_isFewer_15 : decode cX12_isFewer 15 = .ok (.isub, 1) := by decide +kernel
theorem dX12_isFewer_16 : decode cX12_isFewer 16 = .ok (.istore_n 2, 1) := by decide +kernel
theorem dX12_isFewer_17 : decode cX12_isFewer 17 = .ok (.iload_n 2, 1) := by decide +kernel
theorem dX12_isFewer_18 : decode cX12_isFewer 18 = .ok (.ifCond .lt 12, 3) := by decide +kernel
theorem dX12_isFewer_21 : decode cX12_isFewer 21 = .ok (.iload_n 2, 1) := by decide +kernel
theorem dX12_isFewer_22 : decode cX12_isFewer 22 = .ok (.ifCond .ne 12, 3) := by decide +kernel
theorem dX12_isFewer_25 : decode cX12_isFewer 25 = .ok (.iload_n 0, 1) := by decide +kernel
theorem dX12_isFewer_26 : decode cX12_isFewer 26 = .ok (.iload_n 1, 1) := by decide +kernel
theorem dX12_isFewer_27 : decode cX12_isFewer 27 = .ok (.if_icmp .ge 7, 3) := by decide +kernel
theorem dX12_isFewer_30 : decode cX12_isFewer 30 = .ok (.iconst 1, 1) := by decide +kernel
theorem dX12_isFewer_31 : decode cX12_isFewer 31 = .ok (.goto 4, 3) := by decide +kernel
theorem dX12_isFewer_34 : decode cX12_isFewer 34 = .ok (.iconst 0, 1) := by decide +kernel
theorem dX12_isFewer_35 : decode cX12_isFewer 35 = .ok (.ireturn, 1) := by decide +kernel
set_option maxRecDepth 20000 in
theorem ggX12_slips_J7_fill_53178 : GoodIn wsX12_slips wsJ7_fill_53178 := goodIn_r _ [6] (by decide +kernel) (by decide +kernel)
set_option maxRecDepth 20000 in
theorem gX12_slips_J7_fill_53178 : GoodIn wsX12_slips (va_wsS RX12 348 yJ7_fill_53178 wsJ7_fill_53178) := goodIn_app (goodIn_of _ (by decide +kernel)) ggX12_slips_J7_fill_53178
set_option maxRecDepth 20000 in
theorem ggX12_slips_X12_shareChances : GoodIn wsX12_slips wsX12_shareChances := goodIn_r _ [11, 12, 1, 13, 14, 15, 16, 3, 4, 5, 6, 17, 18, 19, 20, 21, 22, 23, 24, 25, 26, 27, 28, 29, 30, 31, 32, 33, 34, 35] (by decide +kernel) (by decide +kernel)
set_option maxRecDepth 20000 in
theorem gX12_slips_X12_shareChances : GoodIn wsX12_slips (wsV RX12 358 RX12 yX12_shareChances wsX12_shareChances) := goodIn_app (goodIn_of _ (by decide +kernel)) ggX12_slips_X12_shareChances
theorem dX12_slips_0 : decode cX12_slips 0 = .ok (.iload_n 1, 1) := by decide +kernel
theorem dX12_slips_1 : decode cX12_slips 1 = .ok (.ifCond .lt 24, 3) := by decide +kernel
theorem dX12_slips_4 : decode cX12_slips 4 = .ok (.iload_n 1, 1) := by decide +kernel
theorem dX12_slips_5 : decode cX12_slips 5 = .ok (.bipush 30, 2) := by decide +kernel
theorem dX12_slips_7 : decode cX12_slips 7 = .ok (.if_icmp .gt 18, 3) := by decide +kernel
theorem dX12_slips_10 : decode cX12_slips 10 = .ok (.iload_n 2, 1) := by decide +kernel
theorem dX12_slips_11 : decode cX12_slips 11 = .ok (.iconst 1, 1) := by decide +kernel
theorem dX12_slips_12 : decode cX12_slips 12 = .ok (.if_icmp .lt 13, 3) := by decide +kernel
theorem dX12_slips_15 : decode cX12_slips 15 = .ok (.iload_n 2, 1) := by decide +kernel
theorem dX12_slips_16 : decode cX12_slips 16 = .ok (.bipush 8, 2) := by decide +kernel
theorem dX12_slips_18 : decode cX12_slips 18 = .ok (.if_icmp .gt 7, 3) := by decide +kernel
theorem dX12_slips_21 : decode cX12_slips 21 = .ok (.iconst 1, 1) := by decide +kernel
theorem dX12_slips_22 : decode cX12_slips 22 = .ok (.goto 4, 3) := by decide +kernel
theorem dX12_slips_25 : decode cX12_slips 25 = .ok (.iconst 0, 1) := by decide +kernel
theorem dX12_slips_26 : decode cX12_slips 26 = .ok (.istore 4, 2) := by decide +kernel
theorem dX12_slips_28 : decode cX12_slips 28 = .ok (.iload 4, 2) := by decide +kernel
theorem dX12_slips_30 : decode cX12_slips 30 = .ok (.ifCond .eq 12, 3) := by decide +kernel
theorem dX12_slips_33 : decode cX12_slips 33 = .ok (.iload_n 3, 1) := by decide +kernel
theorem dX12_slips_34 : decode cX12_slips 34 = .ok (.ifCond .lt 8, 3) := by decide +kernel
theorem dX12_slips_37 : decode cX12_slips 37 = .ok (.iload_n 3, 1) := by decide +kernel
theorem dX12_slips_38 : decode cX12_slips 38 = .ok (.iload_n 2, 1) := by decide +kernel
theorem dX12_slips_39 : decode cX12_slips 39 = .ok (.if_icmp .le 5, 3) := by decide +kernel
theorem dX12_slips_42 : decode cX12_slips 42 = .ok (.iconst (-1), 1) := by decide +kernel
theorem dX12_slips_43 : decode cX12_slips 43 = .ok (.ireturn, 1) := by decide +kernel
theorem dX12_slips_44 : decode cX12_slips 44 = .ok (.aload_n 0, 1) := by decide +kernel
theorem dX12_slips_45 : decode cX12_slips 45 = .ok (.getfield 67, 3) := by decide +kernel
theorem dX12_slips_48 : decode cX12_slips 48 = .ok (.iconst 0, 1) := by decide +kernel
theorem dX12_slips_49 : decode cX12_slips 49 = .ok (.invokestatic 348, 3) := by decide +kernel
theorem dX12_slips_52 : decode cX12_slips 52 = .ok (.aload_n 0, 1) := by decide +kernel
theorem dX12_slips_53 : decode cX12_slips 53 = .ok (.getfield 67, 3) := by decide +kernel
theorem dX12_slips_56 : decode cX12_slips 56 = .ok (.iconst 0, 1) := by decide +kernel
theorem dX12_slips_57 : decode cX12_slips 57 = .ok (.ldc_w 357, 3) := by decide +kernel
theorem dX12_slips_60 : decode cX12_slips 60 = .ok (.iastore, 1) := by decide +kernel
theorem dX12_slips_61 : decode cX12_slips 61 = .ok (.iconst 0, 1) := by decide +kernel
theorem dX12_slips_62 : decode cX12_slips 62 = .ok (.istore 5, 2) := by decide +kernel
theorem dX12_slips_64 : decode cX12_slips 64 = .ok (.iload 5, 2) := by decide +kernel
theorem dX12_slips_66 : decode cX12_slips 66 = .ok (.iload_n 1, 1) := by decide +kernel
theorem dX12_slips_67 : decode cX12_slips 67 = .ok (.if_icmp .ge 14, 3) := by decide +kernel
theorem dX12_slips_70 : decode cX12_slips 70 = .ok (.aload_n 0, 1) := by decide +kernel
theorem dX12_slips_71 : decode cX12_slips 71 = .ok (.iload_n 2, 1) := by decide +kernel
theorem dX12_slips_72 : decode cX12_slips 72 = .ok (.invokevirtual 358, 3) := by decide +kernel
theorem dX12_slips_75 : decode cX12_slips 75 = .ok (.iinc 5 1, 3) := by decide +kernel
theorem dX12_slips_78 : decode cX12_slips 78 = .ok (.goto (-14), 3) := by decide +kernel
theorem dX12_slips_81 : decode cX12_slips 81 = .ok (.aload_n 0, 1) := by decide +kernel
theorem dX12_slips_82 : decode cX12_slips 82 = .ok (.getfield 67, 3) := by decide +kernel
theorem dX12_slips_85 : decode cX12_slips 85 = .ok (.iload_n 3, 1) := by decide +kernel
theorem dX12_slips_86 : decode cX12_slips 86 = .ok (.iaload, 1) := by decide +kernel
theorem dX12_slips_87 : decode cX12_slips 87 = .ok (.ireturn, 1) := by decide +kernel
set_option maxRecDepth 20000 in
theorem ggX12_shareChances_J7_fill_53178 : GoodIn wsX12_shareChances wsJ7_fill_53178 := goodIn_r _ [10] (by decide +kernel) (by decide +kernel)
set_option maxRecDepth 20000 in
theorem gX12_shareChances_J7_fill_53178 : GoodIn wsX12_shareChances (va_wsS RX12 348 yJ7_fill_53178 wsJ7_fill_53178) := goodIn_app (goodIn_of _ (by decide +kernel)) ggX12_shareChances_J7_fill_53178
theorem dX12_shareChances_0 : decode cX12_shareChances 0 = .ok (.aload_n 0, 1) := by decide +kernel
theorem dX12_shareChances_1 : decode cX12_shareChances 1 = .ok (.getfield 70, 3) := by decide +kernel
theorem dX12_shareChances_4 : decode cX12_shareChances 4 = .ok (.iconst 0, 1) := by decide +kernel
theorem dX12_shareChances_5 : decode cX12_shareChances 5 = .ok (.invokestatic 348, 3) := by decide +kernel
theorem dX12_shareChances_8 : decode cX12_shareChances 8 = .ok (.iconst 0, 1) := by decide +kernel
theorem dX12_shareChances_9 : decode cX12_shareChances 9 = .ok (.istore_n 2, 1) := by decide +kernel
theorem dX12_shareChances_10 : decode cX12_shareChances 10 = .ok (.iload_n 2, 1) := by decide +kernel
theorem dX12_shareChances_11 : decode cX12_shareChances 11 = .ok (.iload_n 1, 1) := by decide +kernel
theorem dX12_shareChances_12 : decode cX12_shareChances 12 = .ok (.if_icmp .gt 62, 3) := by decide +kernel
theorem dX12_shareChances_15 : decode cX12_shareChances 15 = .ok (.iload_n 2, 1) := by decide +kernel
theorem dX12_shareChances_16 : decode cX12_shareChances 16 = .ok (.iload_n 1, 1) := by decide +kernel
theorem dX12_shareChances_17 : decode cX12_shareChances 17 = .ok (.if_icmp .ge 26, 3) := by decide +kernel
theorem dX12_shareChances_20 : decode cX12_shareChances 20 = .ok (.aload_n 0, 1) := by decide +kernel
theorem dX12_shareChances_21 : decode cX12_shareChances 21 = .ok (.getfield 70, 3) := by decide +kernel
theorem dX12_shareChances_24 : decode cX12_shareChances 24 = .ok (.iload_n 2, 1) := by decide +kernel
theorem dX12_shareChances_25 : decode cX12_shareChances 25 = .ok (.iconst 1, 1) := by decide +kernel
theorem dX12_shareChances_26 : decode cX12_shareChances 26 = .ok (.iadd, 1) := by decide +kernel
theorem dX12_shareChances_27 : decode cX12_shareChances 27 = .ok (.dup2, 1) := by decide +kernel
theorem dX12_shareChances_28 : decode cX12_shareChances 28 = .ok (.iaload, 1) := by decide +kernel
theorem dX12_shareChances_29 : decode cX12_shareChances 29 = .ok (.aload_n 0, 1) := by decide +kernel
theorem dX12_shareChances_30 : decode cX12_shareChances 30 = .ok (.getfield 67, 3) := by decide +kernel
theorem dX12_shareChances_33 : decode cX12_shareChances 33 = .ok (.iload_n 2, 1) := by decide +kernel
theorem dX12_shareChances_34 : decode cX12_shareChances 34 = .ok (.iaload, 1) := by decide +kernel
theorem dX12_shareChances_35 : decode cX12_shareChances 35 = .ok (.iload_n 1, 1) := by decide +kernel
theorem dX12_shareChances_36 : decode cX12_shareChances 36 = .ok (.iload_n 2, 1) := by decide +kernel
theorem dX12_shareChances_37 : decode cX12_shareChances 37 = .ok (.isub, 1) := by decide +kernel
theorem dX12_shareChances_38 : decode cX12_shareChances 38 = .ok (.imul, 1) := by decide +kernel
theorem dX12_shareChances_39 : decode cX12_shareChances 39 = .ok (.iload_n 1, 1) := by decide +kernel
theorem dX12_shareChances_40 : decode cX12_shareChances 40 = .ok (.idiv, 1) := by decide +kernel
theorem dX12_shareChances_41 : decode cX12_shareChances 41 = .ok (.iadd, 1) := by decide +kernel
theorem dX12_shareChances_42 : decode cX12_shareChances 42 = .ok (.iastore, 1) := by decide +kernel
theorem dX12_shareChances_43 : decode cX12_shareChances 43 = .ok (.iload_n 2, 1) := by decide +kernel
theorem dX12_shareChances_44 : decode cX12_shareChances 44 = .ok (.ifCond .le 24, 3) := by decide +kernel
theorem dX12_shareChances_47 : decode cX12_shareChances 47 = .ok (.aload_n 0, 1) := by decide +kernel
theorem dX12_shareChances_48 : decode cX12_shareChances 48 = .ok (.getfield 70, 3) := by decide +kernel
theorem dX12_shareChances_51 : decode cX12_shareChances 51 = .ok (.iload_n 2, 1) := by decide +kernel
theorem dX12_shareChances_52 : decode cX12_shareChances 52 = .ok (.iconst 1, 1) := by decide +kernel
theorem dX12_shareChances_53 : decode cX12_shareChances 53 = .ok (.isub, 1) := by decide +kernel
theorem dX12_shareChances_54 : decode cX12_shareChances 54 = .ok (.dup2, 1) := by decide +kernel
theorem dX12_shareChances_55 : decode cX12_shareChances 55 = .ok (.iaload, 1) := by decide +kernel
theorem dX12_shareChances_56 : decode cX12_shareChances 56 = .ok (.aload_n 0, 1) := by decide +kernel
theorem dX12_shareChances_57 : decode cX12_shareChances 57 = .ok (.getfield 67, 3) := by decide +kernel
theorem dX12_shareChances_60 : decode cX12_shareChances 60 = .ok (.iload_n 2, 1) := by decide +kernel
theorem dX12_shareChances_61 : decode cX12_shareChances 61 = .ok (.iaload, 1) := by decide +kernel
theorem dX12_shareChances_62 : decode cX12_shareChances 62 = .ok (.iload_n 2, 1) := by decide +kernel
theorem dX12_shareChances_63 : decode cX12_shareChances 63 = .ok (.imul, 1) := by decide +kernel
theorem dX12_shareChances_64 : decode cX12_shareChances 64 = .ok (.iload_n 1, 1) := by decide +kernel
theorem dX12_shareChances_65 : decode cX12_shareChances 65 = .ok (.idiv, 1) := by decide +kernel
theorem dX12_shareChances_66 : decode cX12_shareChances 66 = .ok (.iadd, 1) := by decide +kernel
theorem dX12_shareChances_67 : decode cX12_shareChances 67 = .ok (.iastore, 1) := by decide +kernel
theorem dX12_shareChances_68 : decode cX12_shareChances 68 = .ok (.iinc 2 1, 3) := by decide +kernel
theorem dX12_shareChances_71 : decode cX12_shareChances 71 = .ok (.goto (-61), 3) := by decide +kernel
theorem dX12_shareChances_74 : decode cX12_shareChances 74 = .ok (.aload_n 0, 1) := by decide +kernel
theorem dX12_shareChances_75 : decode cX12_shareChances 75 = .ok (.getfield 70, 3) := by decide +kernel
theorem dX12_shareChances_78 : decode cX12_shareChances 78 = .ok (.iconst 0, 1) := by decide +kernel
theorem dX12_shareChances_79 : decode cX12_shareChances 79 = .ok (.aload_n 0, 1) := by decide +kernel
theorem dX12_shareChances_80 : decode cX12_shareChances 80 = .ok (.getfield 67, 3) := by decide +kernel
theorem dX12_shareChances_83 : decode cX12_shareChances 83 = .ok (.iconst 0, 1) := by decide +kernel
theorem dX12_shareChances_84 : decode cX12_shareChances 84 = .ok (.aload_n 0, 1) := by decide +kernel
theorem dX12_shareChances_85 : decode cX12_shareChances 85 = .ok (.getfield 67, 3) := by decide +kernel
theorem dX12_shareChances_88 : decode cX12_shareChances 88 = .ok (.arraylength, 1) := by decide +kernel
theorem dX12_shareChances_89 : decode cX12_shareChances 89 = .ok (.invokestatic 362, 3) := by decide +kernel
theorem dX12_shareChances_92 : decode cX12_shareChances 92 = .ok (.return_, 1) := by decide +kernel
theorem dX13_thrown_0 : decode cX13_thrown 0 = .ok (.aload_n 0, 1) := by decide +kernel
theorem dX13_thrown_1 : decode cX13_thrown 1 = .ok (.getfield 1, 3) := by decide +kernel
theorem dX13_thrown_4 : decode cX13_thrown 4 = .ok (.ireturn, 1) := by decide +kernel
set_option maxRecDepth 20000 in
theorem ggX13_feed_X13_lay : GoodIn wsX13_feed wsX13_lay := goodIn_r _ [7, 2, 8, 9, 10, 11, 12, 13, 14, 15, 16, 17, 18, 19, 20, 21, 22, 23, 24, 25, 26, 27, 28, 29, 30, 31, 32, 33, 34, 35, 36, 37, 38, 39, 40, 41, 42, 43, 44, 45, 46, 47, 48, 49] (by decide +kernel) (by decide +kernel)
set_option maxRecDepth 20000 in
theorem gX13_feed_X13_lay : GoodIn wsX13_feed (wsV RX13 7 RX13 yX13_lay wsX13_lay) := goodIn_app (goodIn_of _ (by decide +kernel)) ggX13_feed_X13_lay
theorem dX13_feed_0 : decode cX13_feed 0 = .ok (.aload_n 0, 1) := by decide +kernel
theorem dX13_feed_1 : decode cX13_feed 1 = .ok (.iconst 0, 1) := by decide +kernel
theorem dX13_feed_2 : decode cX13_feed 2 = .ok (.putfield 1, 3) := by decide +kernel
theorem dX13_feed_5 : decode cX13_feed 5 = .ok (.aload_n 0, 1) := by decide +kernel
theorem dX13_feed_6 : decode cX13_feed 6 = .ok (.lload_n 1, 1) := by decide +kernel
theorem dX13_feed_7 : decode cX13_feed 7 = .ok (.invokevirtual 7, 3) := by decide +kernel
theorem dX13_feed_10 : decode cX13_feed 10 = .ok (.aload_n 0, 1) := by decide +kernel
theorem dX13_feed_11 : decode cX13_feed 11 = .ok (.lload_n 3, 1) := by decide +kernel
theorem dX13_feed_12 : decode cX13_feed 12 = .ok (.invokevirtual 7, 3) := by decide +kernel
theorem dX13_feed_15 : decode cX13_feed 15 = .ok (.aload_n 0, 1) := by decide +kernel
theorem dX13_feed_16 : decode cX13_feed 16 = .ok (.lload 5, 2) := by decide +kernel
theorem dX13_feed_18 : decode cX13_feed 18 = .ok (.invokevirtual 7, 3) := by decide +kernel
theorem dX13_feed_21 : decode cX13_feed 21 = .ok (.aload_n 0, 1) := by decide +kernel
theorem dX13_feed_22 : decode cX13_feed 22 = .ok (.getfield 11, 3) := by decide +kernel
theorem dX13_feed_25 : decode cX13_feed 25 = .ok (.ireturn, 1) := by decide +kernel
theorem dX13_lay_0 : decode cX13_lay 0 = .ok (.bipush 56, 2) := by decide +kernel
theorem dX13_lay_2 : decode cX13_lay 2 = .ok (.istore_n 3, 1) := by decide +kernel
theorem dX13_lay_3 : decode cX13_lay 3 = .ok (.iload_n 3, 1) := by decide +kernel
theorem dX13_lay_4 : decode cX13_lay 4 = .ok (.ifCond .lt 71, 3) := by decide +kernel
theorem dX13_lay_7 : decode cX13_lay 7 = .ok (.lload_n 1, 1) := by decide +kernel
theorem dX13_lay_8 : decode cX13_lay 8 = .ok (.iload_n 3, 1) := by decide +kernel
theorem dX13_lay_9 : decode cX13_lay 9 = .ok (.lshr, 1) := by decide +kernel
theorem dX13_lay_10 : decode cX13_lay 10 = .ok (.l2i, 1) := by decide +kernel
theorem dX13_lay_11 : decode cX13_lay 11 = .ok (.sipush 255, 3) := by decide +kernel
theorem dX13_lay_14 : decode cX13_lay 14 = .ok (.iand, 1) := by decide +kernel
theorem dX13_lay_15 : decode cX13_lay 15 = .ok (.istore 4, 2) := by decide +kernel
theorem dX13_lay_17 : decode cX13_lay 17 = .ok (.iload 4, 2) := by decide +kernel
theorem dX13_lay_19 : decode cX13_lay 19 = .ok (.bipush 10, 2) := by decide +kernel
theorem dX13_lay_21 : decode cX13_lay 21 = .ok (.if_icmp .eq 17, 3) := by decide +kernel
theorem dX13_lay_24 : decode cX13_lay 24 = .ok (.iload 4, 2) := by decide +kernel
theorem dX13_lay_26 : decode cX13_lay 26 = .ok (.bipush 32, 2) := by decide +kernel
theorem dX13_lay_28 : decode cX13_lay 28 = .ok (.if_icmp .lt 41, 3) := by decide +kernel
theorem dX13_lay_31 : decode cX13_lay 31 = .ok (.iload 4, 2) := by decide +kernel
theorem dX13_lay_33 : decode cX13_lay 33 = .ok (.bipush 126, 2) := by decide +kernel
theorem dX13_lay_35 : decode cX13_lay 35 = .ok (.if_icmp .gt 34, 3) := by decide +kernel
theorem dX13_lay_38 : decode cX13_lay 38 = .ok (.aload_n 0, 1) := by decide +kernel
theorem dX13_lay_39 : decode cX13_lay 39 = .ok (.getfield 11, 3) := by decide +kernel
theorem dX13_lay_42 : decode cX13_lay 42 = .ok (.sipush 1000, 3) := by decide +kernel
theorem dX13_lay_45 : decode cX13_lay 45 = .ok (.if_icmp .ge 24, 3) := by decide +kernel
theorem dX13_lay_48 : decode cX13_lay 48 = .ok (.aload_n 0, 1) := by decide +kernel
theorem dX13_lay_49 : decode cX13_lay 49 = .ok (.getfield 14, 3) := by decide +kernel
theorem dX13_lay_52 : decode cX13_lay 52 = .ok (.aload_n 0, 1) := by decide +kernel
theorem dX13_lay_53 : decode cX13_lay 53 = .ok (.getfield 11, 3) := by decide +kernel
theorem dX13_lay_56 : decode cX13_lay 56 = .ok (.iload 4, 2) := by decide +kernel
theorem dX13_lay_58 : decode cX13_lay 58 = .ok (.iastore, 1) := by decide +kernel
theorem dX13_lay_59 : decode cX13_lay 59 = .ok (.aload_n 0, 1) := by decide +kernel
theorem dX13_lay_60 : decode cX13_lay 60 = .ok (.dup, 1) := by decide +kernel
theorem dX13_lay_61 : decode cX13_lay 61 = .ok (.getfield 11, 3) := by decide +kernel
theorem dX13_lay_64 : decode cX13_lay 64 = .ok (.iconst 1, 1) := by decide +kernel
theorem dX13_lay_65 : decode cX13_lay 65 = .ok (.iadd, 1) := by decide +kernel
theorem dX13_lay_66 : decode cX13_lay 66 = .ok (.putfield 11, 3) := by decide +kernel
theorem dX13_lay_69 : decode cX13_lay 69 = .ok (.iinc 3 (-8), 3) := by decide +kernel
theorem dX13_lay_72 : decode cX13_lay 72 = .ok (.goto (-69), 3) := by decide +kernel
theorem dX13_lay_75 : decode cX13_lay 75 = .ok (.return_, 1) := by decide +kernel
set_option maxRecDepth 20000 in
theorem ggX13_init_X13_standsAsAlways : GoodIn wsX13_init wsX13_standsAsAlways := goodIn_r _ [66, 40, 84, 85, 86, 87, 88, 89, 90, 91, 92, 93, 94, 95, 96, 97, 98, 99, 100, 101, 102, 103, 104, 105, 106, 107, 108, 109, 110, 111, 112, 113, 114, 115, 116, 117, 118, 119, 120, 121, 122, 123, 124] (by decide +kernel) (by decide +kernel)
set_option maxRecDepth 20000 in
theorem gX13_init_X13_standsAsAlways : GoodIn wsX13_init (wsV RX13 159 RX13 yX13_standsAsAlways wsX13_standsAsAlways) := goodIn_app (goodIn_of _ (by decide +kernel)) ggX13_init_X13_standsAsAlways
set_option maxRecDepth 20000 in
theorem ggX13_init_X13_begins : GoodIn wsX13_init wsX13_begins := goodIn_r _ [70, 50, 47, 71, 52, 72, 73, 74, 65, 75, 40, 76, 77, 78, 79, 80, 81, 82, 83, 84, 85, 86, 87, 88, 89, 90, 91, 92, 93, 94, 95, 96, 97, 98, 99, 100, 101, 102, 103, 104, 105, 106, 107, 108, 109, 110, 111, 112, 113, 114, 115, 116, 117, 118, 119, 120, 121, 122, 123, 124] (by decide +kernel) (by decide +kernel)
set_option maxRecDepth 20000 in
theorem gX13_init_X13_begins : GoodIn wsX13_init (wsV RX13 163 RX13 yX13_begins wsX13_begins) := goodIn_app (goodIn_of _ (by decide +kernel)) ggX13_init_X13_begins
theorem dX13_init_0 : decode cX13_init 0 = .ok (.aload_n 0, 1) := by decide +kernel
theorem dX13_init_1 : decode cX13_init 1 = .ok (.invokespecial 18, 3) := by decide +kernel
theorem dX13_init_4 : decode cX13_init 4 = .ok (.aload_n 0, 1) := by decide +kernel
theorem dX13_init_5 : decode cX13_init 5 = .ok (.sipush 1000, 3) := by decide +kernel
theorem dX13_init_8 : decode cX13_init 8 = .ok (.newarray .int, 2) := by decide +kernel
theorem dX13_init_10 : decode cX13_init 10 = .ok (.putfield 14, 3) := by decide +kernel
theorem dX13_init_13 : decode cX13_init 13 = .ok (.aload_n 0, 1) := by decide +kernel
theorem dX13_init_14 : decode cX13_init 14 = .ok (.sipush 1002, 3) := by decide +kernel
theorem dX13_init_17 : decode cX13_init 17 = .ok (.newarray .int, 2) := by decide +kernel
theorem dX13_init_19 : decode cX13_init 19 = .ok (.putfield 24, 3) := by decide +kernel
theorem dX13_init_22 : decode cX13_init 22 = .ok (.aload_n 0, 1) := by decide +kernel
theorem dX13_init_23 : decode cX13_init 23 = .ok (.sipush 1002, 3) := by decide +kernel
theorem dX13_init_26 : decode cX13_init 26 = .ok (.newarray .int, 2) := by decide +kernel
theorem dX13_init_28 : decode cX13_init 28 = .ok (.putfield 27, 3) := by decide +kernel
theorem dX13_init_31 : decode cX13_init 31 = .ok (.aload_n 0, 1) := by decide +kernel
theorem dX13_init_32 : decode cX13_init 32 = .ok (.sipush 1002, 3) := by decide +kernel
theorem dX13_init_35 : decode cX13_init 35 = .ok (.newarray .long, 2) := by decide +kernel
theorem dX13_init_37 : decode cX13_init 37 = .ok (.putfield 30, 3) := by decide +kernel
theorem dX13_init_40 : decode cX13_init 40 = .ok (.aload_n 0, 1) := by decide +kernel
theorem dX13_init_41 : decode cX13_init 41 = .ok (.bipush 29, 2) := by decide +kernel
theorem dX13_init_43 : decode cX13_init 43 = .ok (.newarray .long, 2) := by decide +kernel
theorem dX13_init_45 : decode cX13_init 45 = .ok (.dup, 1) := by decide +kernel
theorem dX13_init_46 : decode cX13_init 46 = .ok (.iconst 0, 1) := by decide +kernel
theorem dX13_init_47 : decode cX13_init 47 = .ok (.ldc2_w 34, 3) := by decide +kernel
theorem dX13_init_50 : decode cX13_init 50 = .ok (.lastore, 1) := by decide +kernel
theorem dX13_init_51 : decode cX13_init 51 = .ok (.dup, 1) := by decide +kernel
theorem dX13_init_52 : decode cX13_init 52 = .ok (.iconst 1, 1) := by decide +kernel
theorem dX13_init_53 : decode cX13_init 53 = .ok (.ldc2_w 36, 3) := by decide +kernel
theorem dX13_init_56 : decode cX13_init 56 = .ok (.lastore, 1) := by decide +kernel
theorem dX13_init_57 : decode cX13_init 57 = .ok (.dup, 1) := by decide +kernel
theorem dX13_init_58 : decode cX13_init 58 = .ok (.iconst 2, 1) := by decide +kernel
theorem dX13_init_59 : decode cX13_init 59 = .ok (.ldc2_w 38, 3) := by decide +kernel
theorem dX13_init_62 : decode cX13_init 62 = .ok (.lastore, 1) := by decide +kernel
theorem dX13_init_63 : decode cX13_init 63 = .ok (.dup, 1) := by decide +kernel
theorem dX13_init_64 : decode cX13_init 64 = .ok (.iconst 3, 1) := by decide +kernel
theorem dX13_init_65 : decode cX13_init 65 = .ok (.ldc2_w 40, 3) := by decide +kernel
theorem dX13_init_68 : decode cX13_init 68 = .ok (.lastore, 1) := by decide +kernel
theorem dX13_init_69 : decode cX13_init 69 = .ok (.dup, 1) := by decide +kernel
theorem dX13_init_70 : decode cX13_init 70 = .ok (.iconst 4, 1) := by decide +kernel
theorem dX13_init_71 : decode cX13_init 71 = .ok (.ldc2_w 42, 3) := by decide +kernel
theorem dX13_init_74 : decode cX13_init 74 = .ok (.lastore, 1) := by decide +kernel
theorem dX13_init_75 : decode cX13_init 75 = .ok (.dup, 1) := by decide +kernel
theorem dX13_init_76 : decode cX13_init 76 = .ok (.iconst 5, 1) := by decide +kernel
theorem dX13_init_77 : decode cX13_init 77 = .ok (.ldc2_w 44, 3) := by decide +kernel
theorem dX13_init_80 : decode cX13_init 80 = .ok (.lastore, 1) := by decide +kernel
theorem dX13_init_81 : decode cX13_init 81 = .ok (.dup, 1) := by decide +kernel
theorem dX13_init_82 : decode cX13_init 82 = .ok (.bipush 6, 2) := by decide +kernel
theorem dX13_init_84 : decode cX13_init 84 = .ok (.ldc2_w 46, 3) := by decide +kernel
theorem dX13_init_87 : decode cX13_init 87 = .ok (.lastore, 1) := by decide +kernel
theorem dX13_init_88 : decode cX13_init 88 = .ok (.dup, 1) := by decide +kernel
theorem dX13_init_89 : decode cX13_init 89 = .ok (.bipush 7, 2) := by decide +kernel
theorem dX13_init_91 : decode cX13_init 91 = .ok (.ldc2_w 48, 3) := by decide +kernel
theorem dX13_init_94 : decode cX13_init 94 = .ok (.lastore, 1) := by decide +kernel
theorem dX13_init_95 : decode cX13_init 95 = .ok (.dup, 1) := by decide +kernel
theorem dX13_init_96 : decode cX13_init 96 = .ok (.bipush 8, 2) := by decide +kernel
theorem dX13_init_98 : decode cX13_init 98 = .ok (.ldc2_w 50, 3) := by decide +kernel
theorem dX13_init_101 : decode cX13_init 101 = .ok (.lastore, 1) := by decide +kernel
theorem dX13_init_102 : decode cX13_init 102 = .ok (.dup, 1) := by decide +kernel
theorem dX13_init_103 : decode cX13_init 103 = .ok (.bipush 9, 2) := by decide +kernel
theorem dX13_init_105 : decode cX13_init 105 = .ok (.ldc2_w 52, 3) := by decide +kernel
theorem dX13_init_108 : decode cX13_init 108 = .ok (.lastore, 1) := by decide +kernel
theorem dX13_init_109 : decode cX13_init 109 = .ok (.dup, 1) := by decide +kernel
theorem dX13_init_110 : decode cX13_init 110 = .ok (.bipush 10, 2) := by decide +kernel
theorem dX13_init_112 : decode cX13_init 112 = .ok (.ldc2_w 54, 3) := by decide +kernel
theorem dX13_init_115 : decode cX13_init 115 = .ok (.lastore, 1) := by decide +kernel
theorem dX13_init_116 : decode cX13_init 116 = .ok (.dup, 1) := by decide +kernel
theorem dX13_init_117 : decode cX13_init 117 = .ok (.bipush 11, 2) := by decide +kernel
theorem dX13_init_119 : decode cX13_init 119 = .ok (.ldc2_w 56, 3) := by decide +kernel
theorem dX13_init_122 : decode cX13_init 122 = .ok (.lastore, 1) := by decide +kernel
theorem dX13_init_123 : decode cX13_init 123 = .ok (.dup, 1) := by decide +kernel
theorem dX13_init_124 : decode cX13_init 124 = .ok (.bipush 12, 2) := by decide +kernel
theorem dX13_init_126 : decode cX13_init 126 = .ok (.ldc2_w 58, 3) := by decide +kernel
theorem dX13_init_129 : decode cX13_init 129 = .ok (.lastore, 1) := by decide +kernel
theorem dX13_init_130 : decode cX13_init 130 = .ok (.dup, 1) := by decide +kernel
theorem dX13_init_131 : decode cX13_init 131 = .ok (.bipush 13, 2) := by decide +kernel
theorem dX13_init_133 : decode cX13_init 133 = .ok (.ldc2_w 60, 3) := by decide +kernel
theorem dX13_init_136 : decode cX13_init 136 = .ok (.lastore, 1) := by decide +kernel
theorem dX13_init_137 : decode cX13_init 137 = .ok (.dup, 1) := by decide +kernel
theorem dX13_init_138 : decode cX13_init 138 = .ok (.bipush 14, 2) := by decide +kernel
theorem dX13_init_140 : decode cX13_init 140 = .ok (.ldc2_w 62, 3) := by decide +kernel
theorem dX13_init_143 : decode cX13_init 143 = .ok (.lastore, 1) := by decide +kernel
theorem dX13_init_144 : decode cX13_init 144 = .ok (.dup, 1) := by decide +kernel
theorem dX13_init_145 : decode cX13_init 145 = .ok (.bipush 15, 2) := by decide +kernel
theorem dX13_init_147 : decode cX13_init 147 = .ok (.ldc2_w 64, 3) := by decide +kernel
theorem dX13_init_150 : decode cX13_init 150 = .ok (.lastore, 1) := by decide +kernel
theorem dX13_init_151 : decode cX13_init 151 = .ok (.dup, 1) := by decide +kernel
theorem dX13_init_152 : decode cX13_init 152 = .ok (.bipush 16, 2) := by decide +kernel
theorem dX13_init_154 : decode cX13_init 154 = .ok (.ldc2_w 66, 3) := by decide +kernel
theorem dX13_init_157 : decode cX13_init 157 = .ok (.lastore, 1) := by decide +kernel
theorem dX13_init_158 : decode cX13_init 158 = .ok (.dup, 1) := by decide +kernel
theorem dX13_init_159 : decode cX13_init 159 = .ok (.bipush 17, 2) := by decide +kernel
theorem dX13_init_161 : decode cX13_init 161 = .ok (.ldc2_w 68, 3) := by decide +kernel
theorem dX13_init_164 : decode cX13_init 164 = .ok (.lastore, 1) := by decide +kernel
theorem dX13_init_165 : decode cX13_init 165 = .ok (.dup, 1) := by decide +kernel
theorem dX13_init_166 : decode cX13_init 166 = .ok (.bipush 18, 2) := by decide +kernel
theorem dX13_init_168 : decode cX13_init 168 = .ok (.ldc2_w 70, 3) := by decide +kernel
theorem dX13_init_171 : decode cX13_init 171 = .ok (.lastore, 1) := by decide +kernel
theorem dX13_init_172 : decode cX13_init 172 = .ok (.dup, 1) := by decide +kernel
theorem dX13_init_173 : decode cX13_init 173 = .ok (.bipush 19, 2) := by decide +kernel
theorem dX13_init_175 : decode cX13_init 175 = .ok (.ldc2_w 72, 3) := by decide +kernel
theorem dX13_init_178 : decode cX13_init 178 = .ok (.lastore, 1) := by decide +kernel
theorem dX13_init_179 : decode cX13_init 179 = .ok (.dup, 1) := by decide +kernel
theorem dX13_init_180 : decode cX13_init 180 = .ok (.bipush 20, 2) := by decide +kernel
theorem dX13_init_182 : decode cX13_init 182 = .ok (.ldc2_w 74, 3) := by decide +kernel
theorem dX13_init_185 : decode cX13_init 185 = .ok (.lastore, 1) := by decide +kernel
theorem dX13_init_186 : decode cX13_init 186 = .ok (.dup, 1) := by decide +kernel
theorem dX13_init_187 : decode cX13_init 187 = .ok (.bipush 21, 2) := by decide +kernel
theorem dX13_init_189 : decode cX13_init 189 = .ok (.ldc2_w 76, 3) := by decide +kernel
theorem dX13_init_192 : decode cX13_init 192 = .ok (.lastore, 1) := by decide +kernel
theorem dX13_init_193 : decode cX13_init 193 = .ok (.dup, 1) := by decide +kernel
theorem dX13_init_194 : decode cX13_init 194 = .ok (.bipush 22, 2) := by decide +kernel
theorem dX13_init_196 : decode cX13_init 196 = .ok (.ldc2_w 78, 3) := by decide +kernel
theorem dX13_init_199 : decode cX13_init 199 = .ok (.lastore, 1) := by decide +kernel
theorem dX13_init_200 : decode cX13_init 200 = .ok (.dup, 1) := by decide +kernel
theorem dX13_init_201 : decode cX13_init 201 = .ok (.bipush 23, 2) := by decide +kernel
theorem dX13_init_203 : decode cX13_init 203 = .ok (.ldc2_w 80, 3) := by decide +kernel
theorem dX13_init_206 : decode cX13_init 206 = .ok (.lastore, 1) := by decide +kernel
theorem dX13_init_207 : decode cX13_init 207 = .ok (.dup, 1) := by decide +kernel
theorem dX13_init_208 : decode cX13_init 208 = .ok (.bipush 24, 2) := by decide +kernel
theorem dX13_init_210 : decode cX13_init 210 = .ok (.ldc2_w 82, 3) := by decide +kernel
theorem dX13_init_213 : decode cX13_init 213 = .ok (.lastore, 1) := by decide +kernel
theorem dX13_init_214 : decode cX13_init 214 = .ok (.dup, 1) := by decide +kernel
theorem dX13_init_215 : decode cX13_init 215 = .ok (.bipush 25, 2) := by decide +kernel
theorem dX13_init_217 : decode cX13_init 217 = .ok (.ldc2_w 84, 3) := by decide +kernel
theorem dX13_init_220 : decode cX13_init 220 = .ok (.lastore, 1) := by decide +kernel
theorem dX13_init_221 : decode cX13_init 221 = .ok (.dup, 1) := by decide +kernel
theorem dX13_init_222 : decode cX13_init 222 = .ok (.bipush 26, 2) := by decide +kernel
theorem dX13_init_224 : decode cX13_init 224 = .ok (.ldc2_w 86, 3) := by decide +kernel
theorem dX13_init_227 : decode cX13_init 227 = .ok (.lastore, 1) := by decide +kernel
theorem dX13_init_228 : decode cX13_init 228 = .ok (.dup, 1) := by decide +kernel
theorem dX13_init_229 : decode cX13_init 229 = .ok (.bipush 27, 2) := by decide +kernel
theorem dX13_init_231 : decode cX13_init 231 = .ok (.ldc2_w 88, 3) := by decide +kernel
theorem dX13_init_234 : decode cX13_init 234 = .ok (.lastore, 1) := by decide +kernel
theorem dX13_init_235 : decode cX13_init 235 = .ok (.dup, 1) := by decide +kernel
theorem dX13_init_236 : decode cX13_init 236 = .ok (.bipush 28, 2) := by decide +kernel
theorem dX13_init_238 : decode cX13_init 238 = .ok (.ldc2_w 90, 3) := by decide +kernel
theorem dX13_init_241 : decode cX13_init 241 = .ok (.lastore, 1) := by decide +kernel
theorem dX13_init_242 : decode cX13_init 242 = .ok (.putfield 92, 3) := by decide +kernel
theorem dX13_init_245 : decode cX13_init 245 = .ok (.aload_n 0, 1) := by decide +kernel
theorem dX13_init_246 : decode cX13_init 246 = .ok (.sipush 140, 3) := by decide +kernel
theorem dX13_init_249 : decode cX13_init 249 = .ok (.newarray .int, 2) := by decide +kernel
theorem dX13_init_251 : decode cX13_init 251 = .ok (.putfield 95, 3) := by decide +kernel
theorem dX13_init_254 : decode cX13_init 254 = .ok (.aload_n 0, 1) := by decide +kernel
theorem dX13_init_255 : decode cX13_init 255 = .ok (.sipush 2200, 3) := by decide +kernel
theorem dX13_init_258 : decode cX13_init 258 = .ok (.newarray .int, 2) := by decide +kernel
theorem dX13_init_260 : decode cX13_init 260 = .ok (.putfield 98, 3) := by decide +kernel
theorem dX13_init_263 : decode cX13_init 263 = .ok (.aload_n 0, 1) := by decide +kernel
theorem dX13_init_264 : decode cX13_init 264 = .ok (.sipush 2200, 3) := by decide +kernel
theorem dX13_init_267 : decode cX13_init 267 = .ok (.newarray .int, 2) := by decide +kernel
theorem dX13_init_269 : decode cX13_init 269 = .ok (.putfield 101, 3) := by decide +kernel
theorem dX13_init_272 : decode cX13_init 272 = .ok (.aload_n 0, 1) := by decide +kernel
theorem dX13_init_273 : decode cX13_init 273 = .ok (.bipush 18, 2) := by decide +kernel
theorem dX13_init_275 : decode cX13_init 275 = .ok (.newarray .long, 2) := by decide +kernel
theorem dX13_init_277 : decode cX13_init 277 = .ok (.putfield 104, 3) := by decide +kernel
theorem dX13_init_280 : decode cX13_init 280 = .ok (.aload_n 0, 1) := by decide +kernel
theorem dX13_init_281 : decode cX13_init 281 = .ok (.bipush 18, 2) := by decide +kernel
theorem dX13_init_283 : decode cX13_init 283 = .ok (.newarray .long, 2) := by decide +kernel
theorem dX13_init_285 : decode cX13_init 285 = .ok (.putfield 107, 3) := by decide +kernel
theorem dX13_init_288 : decode cX13_init 288 = .ok (.aload_n 0, 1) := by decide +kernel
theorem dX13_init_289 : decode cX13_init 289 = .ok (.bipush 18, 2) := by decide +kernel
theorem dX13_init_291 : decode cX13_init 291 = .ok (.newarray .int, 2) := by decide +kernel
theorem dX13_init_293 : decode cX13_init 293 = .ok (.putfield 110, 3) := by decide +kernel
theorem dX13_init_296 : decode cX13_init 296 = .ok (.aload_n 0, 1) := by decide +kernel
theorem dX13_init_297 : decode cX13_init 297 = .ok (.bipush 18, 2) := by decide +kernel
theorem dX13_init_299 : decode cX13_init 299 = .ok (.newarray .int, 2) := by decide +kernel
theorem dX13_init_301 : decode cX13_init 301 = .ok (.putfield 113, 3) := by decide +kernel
theorem dX13_init_304 : decode cX13_init 304 = .ok (.aload_n 0, 1) := by decide +kernel
theorem dX13_init_305 : decode cX13_init 305 = .ok (.sipush 250, 3) := by decide +kernel
theorem dX13_init_308 : decode cX13_init 308 = .ok (.newarray .int, 2) := by decide +kernel
theorem dX13_init_310 : decode cX13_init 310 = .ok (.putfield 116, 3) := by decide +kernel
theorem dX13_init_313 : decode cX13_init 313 = .ok (.aload_n 0, 1) := by decide +kernel
theorem dX13_init_314 : decode cX13_init 314 = .ok (.iconst 4, 1) := by decide +kernel
theorem dX13_init_315 : decode cX13_init 315 = .ok (.newarray .int, 2) := by decide +kernel
theorem dX13_init_317 : decode cX13_init 317 = .ok (.putfield 119, 3) := by decide +kernel
theorem dX13_init_320 : decode cX13_init 320 = .ok (.aload_n 0, 1) := by decide +kernel
theorem dX13_init_321 : decode cX13_init 321 = .ok (.sipush 1100, 3) := by decide +kernel
theorem dX13_init_324 : decode cX13_init 324 = .ok (.newarray .int, 2) := by decide +kernel
theorem dX13_init_326 : decode cX13_init 326 = .ok (.putfield 122, 3) := by decide +kernel
theorem dX13_init_329 : decode cX13_init 329 = .ok (.aload_n 0, 1) := by decide +kernel
theorem dX13_init_330 : decode cX13_init 330 = .ok (.sipush 1518, 3) := by decide +kernel
theorem dX13_init_333 : decode cX13_init 333 = .ok (.newarray .int, 2) := by decide +kernel
theorem dX13_init_335 : decode cX13_init 335 = .ok (.putfield 125, 3) := by decide +kernel
theorem dX13_init_338 : decode cX13_init 338 = .ok (.aload_n 0, 1) := by decide +kernel
theorem dX13_init_339 : decode cX13_init 339 = .ok (.iconst 4, 1) := by decide +kernel
theorem dX13_init_340 : decode cX13_init 340 = .ok (.newarray .boolean, 2) := by decide +kernel
theorem dX13_init_342 : decode cX13_init 342 = .ok (.putfield 128, 3) := by decide +kernel
theorem dX13_init_345 : decode cX13_init 345 = .ok (.aload_n 0, 1) := by decide +kernel
theorem dX13_init_346 : decode cX13_init 346 = .ok (.bipush 6, 2) := by decide +kernel
theorem dX13_init_348 : decode cX13_init 348 = .ok (.newarray .int, 2) := by decide +kernel
theorem dX13_init_350 : decode cX13_init 350 = .ok (.putfield 132, 3) := by decide +kernel
theorem dX13_init_353 : decode cX13_init 353 = .ok (.aload_n 0, 1) := by decide +kernel
theorem dX13_init_354 : decode cX13_init 354 = .ok (.bipush 6, 2) := by decide +kernel
theorem dX13_init_356 : decode cX13_init 356 = .ok (.newarray .int, 2) := by decide +kernel
theorem dX13_init_358 : decode cX13_init 358 = .ok (.putfield 135, 3) := by decide +kernel
theorem dX13_init_361 : decode cX13_init 361 = .ok (.aload_n 0, 1) := by decide +kernel
theorem dX13_init_362 : decode cX13_init 362 = .ok (.bipush 6, 2) := by decide +kernel
theorem dX13_init_364 : decode cX13_init 364 = .ok (.newarray .int, 2) := by decide +kernel
theorem dX13_init_366 : decode cX13_init 366 = .ok (.putfield 138, 3) := by decide +kernel
theorem dX13_init_369 : decode cX13_init 369 = .ok (.aload_n 0, 1) := by decide +kernel
theorem dX13_init_370 : decode cX13_init 370 = .ok (.iconst 5, 1) := by decide +kernel
theorem dX13_init_371 : decode cX13_init 371 = .ok (.newarray .int, 2) := by decide +kernel
theorem dX13_init_373 : decode cX13_init 373 = .ok (.putfield 141, 3) := by decide +kernel
theorem dX13_init_376 : decode cX13_init 376 = .ok (.aload_n 0, 1) := by decide +kernel
theorem dX13_init_377 : decode cX13_init 377 = .ok (.bipush 8, 2) := by decide +kernel
theorem dX13_init_379 : decode cX13_init 379 = .ok (.newarray .int, 2) := by decide +kernel
theorem dX13_init_381 : decode cX13_init 381 = .ok (.putfield 144, 3) := by decide +kernel
theorem dX13_init_384 : decode cX13_init 384 = .ok (.aload_n 0, 1) := by decide +kernel
theorem dX13_init_385 : decode cX13_init 385 = .ok (.bipush 8, 2) := by decide +kernel
theorem dX13_init_387 : decode cX13_init 387 = .ok (.newarray .int, 2) := by decide +kernel
theorem dX13_init_389 : decode cX13_init 389 = .ok (.putfield 147, 3) := by decide +kernel
theorem dX13_init_392 : decode cX13_init 392 = .ok (.aload_n 0, 1) := by decide +kernel
theorem dX13_init_393 : decode cX13_init 393 = .ok (.bipush 8, 2) := by decide +kernel
theorem dX13_init_395 : decode cX13_init 395 = .ok (.newarray .int, 2) := by decide +kernel
theorem dX13_init_397 : decode cX13_init 397 = .ok (.putfield 150, 3) := by decide +kernel
theorem dX13_init_400 : decode cX13_init 400 = .ok (.aload_n 0, 1) := by decide +kernel
theorem dX13_init_401 : decode cX13_init 401 = .ok (.bipush 10, 2) := by decide +kernel
theorem dX13_init_403 : decode cX13_init 403 = .ok (.newarray .int, 2) := by decide +kernel
theorem dX13_init_405 : decode cX13_init 405 = .ok (.putfield 153, 3) := by decide +kernel
theorem dX13_init_408 : decode cX13_init 408 = .ok (.aload_n 0, 1) := by decide +kernel
theorem dX13_init_409 : decode cX13_init 409 = .ok (.bipush 10, 2) := by decide +kernel
theorem dX13_init_411 : decode cX13_init 411 = .ok (.newarray .int, 2) := by decide +kernel
theorem dX13_init_413 : decode cX13_init 413 = .ok (.putfield 156, 3) := by decide +kernel
theorem dX13_init_416 : decode cX13_init 416 = .ok (.aload_n 0, 1) := by decide +kernel
theorem dX13_init_417 : decode cX13_init 417 = .ok (.iconst 0, 1) := by decide +kernel
theorem dX13_init_418 : decode cX13_init 418 = .ok (.invokevirtual 159, 3) := by decide +kernel
theorem dX13_init_421 : decode cX13_init 421 = .ok (.aload_n 0, 1) := by decide +kernel
theorem dX13_init_422 : decode cX13_init 422 = .ok (.invokevirtual 163, 3) := by decide +kernel
theorem dX13_init_425 : decode cX13_init 425 = .ok (.return_, 1) := by decide +kernel
theorem dX13_isLetter_0 : decode cX13_isLetter 0 = .ok (.iload_n 0, 1) := by decide +kernel
theorem dX13_isLetter_1 : decode cX13_isLetter 1 = .ok (.bipush 97, 2) := by decide +kernel
theorem dX13_isLetter_3 : decode cX13_isLetter 3 = .ok (.if_icmp .lt 13, 3) := by decide +kernel
theorem dX13_isLetter_6 : decode cX13_isLetter 6 = .ok (.iload_n 0, 1) := by decide +kernel
theorem dX13_isLetter_7 : decode cX13_isLetter 7 = .ok (.bipush 122, 2) := by decide +kernel
theorem dX13_isLetter_9 : decode cX13_isLetter 9 = .ok (.if_icmp .gt 7, 3) := by decide +kernel
theorem dX13_isLetter_12 : decode cX13_isLetter 12 = .ok (.iconst 1, 1) := by decide +kernel
theorem dX13_isLetter_13 : decode cX13_isLetter 13 = .ok (.goto 4, 3) := by decide +kernel
theorem dX13_isLetter_16 : decode cX13_isLetter 16 = .ok (.iconst 0, 1) := by decide +kernel
theorem dX13_isLetter_17 : decode cX13_isLetter 17 = .ok (.ireturn, 1) := by decide +kernel
theorem dX13_isDigit_0 : decode cX13_isDigit 0 = .ok (.iload_n 0, 1) := by decide +kernel
theorem dX13_isDigit_1 : decode cX13_isDigit 1 = .ok (.bipush 48, 2) := by decide +kernel
theorem dX13_isDigit_3 : decode cX13_isDigit 3 = .ok (.if_icmp .lt 13, 3) := by decide +kernel
theorem dX13_isDigit_6 : decode cX13_isDigit 6 = .ok (.iload_n 0, 1) := by decide +kernel
theorem dX13_isDigit_7 : decode cX13_isDigit 7 = .ok (.bipush 57, 2) := by decide +kernel
theorem dX13_isDigit_9 : decode cX13_isDigit 9 = .ok (.if_icmp .gt 7, 3) := by decide +kernel
theorem dX13_isDigit_12 : decode cX13_isDigit 12 = .ok (.iconst 1, 1) := by decide +kernel
theorem dX13_isDigit_13 : decode cX13_isDigit 13 = .ok (.goto 4, 3) := by decide +kernel
theorem dX13_isDigit_16 : decode cX13_isDigit 16 = .ok (.iconst 0, 1) := by decide +kernel
theorem dX13_isDigit_17 : decode cX13_isDigit 17 = .ok (.ireturn, 1) := by decide +kernel
set_option maxRecDepth 20000 in
theorem ggX13_rank_X13_isLetter : GoodIn wsX13_rank wsX13_isLetter := goodIn_r _ [4] (by decide +kernel) (by decide +kernel)
set_option maxRecDepth 20000 in
theorem gX13_rank_X13_isLetter : GoodIn wsX13_rank (va_wsS RX13 166 yX13_isLetter wsX13_isLetter) := goodIn_app (goodIn_of _ (by decide +kernel)) ggX13_rank_X13_isLetter
theorem dX13_rank_0 : decode cX13_rank 0 = .ok (.iload_n 0, 1) := by decide +kernel
theorem dX13_rank_1 : decode cX13_rank 1 = .ok (.invokestatic 166, 3) := by decide +kernel
theorem dX13_rank_4 : decode cX13_rank 4 = .ok (.ifCond .eq 10, 3) := by decide +kernel
theorem dX13_rank_7 : decode cX13_rank 7 = .ok (.iload_n 0, 1) := by decide +kernel
theorem dX13_rank_8 : decode cX13_rank 8 = .ok (.bipush 96, 2) := by decide +kernel
theorem dX13_rank_10 : decode cX13_rank 10 = .ok (.isub, 1) := by decide +kernel
theorem dX13_rank_11 : decode cX13_rank 11 = .ok (.goto 7, 3) := by decide +kernel
theorem dX13_rank_14 : decode cX13_rank 14 = .ok (.iload_n 0, 1) := by decide +kernel
theorem dX13_rank_15 : decode cX13_rank 15 = .ok (.bipush 21, 2) := by decide +kernel
theorem dX13_rank_17 : decode cX13_rank 17 = .ok (.isub, 1) := by decide +kernel
theorem dX13_rank_18 : decode cX13_rank 18 = .ok (.ireturn, 1) := by decide +kernel
theorem dX13_isSignOf_0 : decode cX13_isSignOf 0 = .ok (.iload_n 0, 1) := by decide +kernel
theorem dX13_isSignOf_1 : decode cX13_isSignOf 1 = .ok (.bipush 40, 2) := by decide +kernel
theorem dX13_isSignOf_3 : decode cX13_isSignOf 3 = .ok (.if_icmp .eq 45, 3) := by decide +kernel
theorem dX13_isSignOf_6 : decode cX13_isSignOf 6 = .ok (.iload_n 0, 1) := by decide +kernel
theorem dX13_isSignOf_7 : decode cX13_isSignOf 7 = .ok (.bipush 41, 2) := by decide +kernel
theorem dX13_isSignOf_9 : decode cX13_isSignOf 9 = .ok (.if_icmp .eq 39, 3) := by decide +kernel
theorem dX13_isSignOf_12 : decode cX13_isSignOf 12 = .ok (.iload_n 0, 1) := by decide +kernel
theorem dX13_isSignOf_13 : decode cX13_isSignOf 13 = .ok (.bipush 59, 2) := by decide +kernel
theorem dX13_isSignOf_15 : decode cX13_isSignOf 15 = .ok (.if_icmp .eq 33, 3) := by decide +kernel
theorem dX13_isSignOf_18 : decode cX13_isSignOf 18 = .ok (.iload_n 0, 1) := by decide +kernel
theorem dX13_isSignOf_19 : decode cX13_isSignOf 19 = .ok (.bipush 61, 2) := by decide +kernel
theorem dX13_isSignOf_21 : decode cX13_isSignOf 21 = .ok (.if_icmp .eq 27, 3) := by decide +kernel
theorem dX13_isSignOf_24 : decode cX13_isSignOf 24 = .ok (.iload_n 0, 1) := by decide +kernel
theorem dX13_isSignOf_25 : decode cX13_isSignOf 25 = .ok (.bipush 60, 2) := by decide +kernel
theorem dX13_isSignOf_27 : decode cX13_isSignOf 27 = .ok (.if_icmp .eq 21, 3) := by decide +kernel
theorem dX13_isSignOf_30 : decode cX13_isSignOf 30 = .ok (.iload_n 0, 1) := by decide +kernel
theorem dX13_isSignOf_31 : decode cX13_isSignOf 31 = .ok (.bipush 43, 2) := by decide +kernel
theorem dX13_isSignOf_33 : decode cX13_isSignOf 33 = .ok (.if_icmp .eq 15, 3) := by decide +kernel
theorem dX13_isSignOf_36 : decode cX13_isSignOf 36 = .ok (.iload_n 0, 1) := by decide +kernel
theorem dX13_isSignOf_37 : decode cX13_isSignOf 37 = .ok (.bipush 45, 2) := by decide +kernel
theorem dX13_isSignOf_39 : decode cX13_isSignOf 39 = .ok (.if_icmp .eq 9, 3) := by decide +kernel
theorem dX13_isSignOf_42 : decode cX13_isSignOf 42 = .ok (.iload_n 0, 1) := by decide +kernel
theorem dX13_isSignOf_43 : decode cX13_isSignOf 43 = .ok (.bipush 42, 2) := by decide +kernel
theorem dX13_isSignOf_45 : decode cX13_isSignOf 45 = .ok (.if_icmp .ne 7, 3) := by decide +kernel
theorem dX13_isSignOf_48 : decode cX13_isSignOf 48 = .ok (.iconst 1, 1) := by decide +kernel
theorem dX13_isSignOf_49 : decode cX13_isSignOf 49 = .ok (.goto 4, 3) := by decide +kernel
theorem dX13_isSignOf_52 : decode cX13_isSignOf 52 = .ok (.iconst 0, 1) := by decide +kernel
theorem dX13_isSignOf_53 : decode cX13_isSignOf 53 = .ok (.ireturn, 1) := by decide +kernel
set_option maxRecDepth 20000 in
theorem ggX13_cutAll_X13_isLetter : GoodIn wsX13_cutAll wsX13_isLetter := goodIn_r _ [15] (by decide +kernel) (by decide +kernel)
set_option maxRecDepth 20000 in
theorem gX13_cutAll_X13_isLetter : GoodIn wsX13_cutAll (va_wsS RX13 166 yX13_isLetter wsX13_isLetter) := goodIn_app (goodIn_of _ (by decide +kernel)) ggX13_cutAll_X13_isLetter
set_option maxRecDepth 20000 in
theorem ggX13_cutAll_X13_rank : GoodIn wsX13_cutAll wsX13_rank := goodIn_r _ [18, 12, 13, 14, 15] (by decide +kernel) (by decide +kernel)
set_option maxRecDepth 20000 in
theorem gX13_cutAll_X13_rank : GoodIn wsX13_cutAll (va_wsS RX13 175 yX13_rank wsX13_rank) := goodIn_app (goodIn_of _ (by decide +kernel)) ggX13_cutAll_X13_rank
set_option maxRecDepth 20000 in
theorem ggX13_cutAll_X13_isDigit : GoodIn wsX13_cutAll wsX13_isDigit := goodIn_r _ [21] (by decide +kernel) (by decide +kernel)
set_option maxRecDepth 20000 in
theorem gX13_cutAll_X13_isDigit : GoodIn wsX13_cutAll (va_wsS RX13 179 yX13_isDigit wsX13_isDigit) := goodIn_app (goodIn_of _ (by decide +kernel)) ggX13_cutAll_X13_isDigit
set_option maxRecDepth 20000 in
theorem ggX13_cutAll_X13_isSignOf : GoodIn wsX13_cutAll wsX13_isSignOf := goodIn_r _ [24] (by decide +kernel) (by decide +kernel)
set_option maxRecDepth 20000 in
theorem gX13_cutAll_X13_isSignOf : GoodIn wsX13_cutAll (va_wsS RX13 186 yX13_isSignOf wsX13_isSignOf) := goodIn_app (goodIn_of _ (by decide +kernel)) ggX13_cutAll_X13_isSignOf
theorem dX13_cutAll_0 : decode cX13_cutAll 0 = .ok (.aload_n 0, 1) := by decide +kernel
theorem dX13_cutAll_1 : decode cX13_cutAll 1 = .ok (.aload_n 0, 1) := by decide +kernel
theorem dX13_cutAll_2 : decode cX13_cutAll 2 = .ok (.getfield 11, 3) := by decide +kernel
theorem dX13_cutAll_5 : decode cX13_cutAll 5 = .ok (.putfield 170, 3) := by decide +kernel
theorem dX13_cutAll_8 : decode cX13_cutAll 8 = .ok (.aload_n 0, 1) := by decide +kernel
theorem dX13_cutAll_9 : decode cX13_cutAll 9 = .ok (.iconst 0, 1) := by decide +kernel
theorem dX13_cutAll_10 : decode cX13_cutAll 10 = .ok (.putfield 11, 3) := by decide +kernel
theorem dX13_cutAll_13 : decode cX13_cutAll 13 = .ok (.iconst 0, 1) := by decide +kernel
theorem dX13_cutAll_14 : decode cX13_cutAll 14 = .ok (.istore_n 1, 1) := by decide +kernel
theorem dX13_cutAll_15 : decode cX13_cutAll 15 = .ok (.iconst 0, 1) := by decide +kernel
theorem dX13_cutAll_16 : decode cX13_cutAll 16 = .ok (.istore_n 2, 1) := by decide +kernel
theorem dX13_cutAll_17 : decode cX13_cutAll 17 = .ok (.iload_n 2, 1) := by decide +kernel
theorem dX13_cutAll_18 : decode cX13_cutAll 18 = .ok (.aload_n 0, 1) := by decide +kernel
theorem dX13_cutAll_19 : decode cX13_cutAll 19 = .ok (.getfield 170, 3) := by decide +kernel
theorem dX13_cutAll_22 : decode cX13_cutAll 22 = .ok (.if_icmp .ge 257, 3) := by decide +kernel
theorem dX13_cutAll_25 : decode cX13_cutAll 25 = .ok (.aload_n 0, 1) := by decide +kernel
theorem dX13_cutAll_26 : decode cX13_cutAll 26 = .ok (.getfield 14, 3) := by decide +kernel
theorem dX13_cutAll_29 : decode cX13_cutAll 29 = .ok (.iload_n 2, 1) := by decide +kernel
theorem dX13_cutAll_30 : decode cX13_cutAll 30 = .ok (.iaload, 1) := by decide +kernel
theorem dX13_cutAll_31 : decode cX13_cutAll 31 = .ok (.istore_n 3, 1) := by decide +kernel
theorem dX13_cutAll_32 : decode cX13_cutAll 32 = .ok (.iload_n 3, 1) := by decide +kernel
theorem dX13_cutAll_33 : decode cX13_cutAll 33 = .ok (.bipush 10, 2) := by decide +kernel
theorem dX13_cutAll_35 : decode cX13_cutAll 35 = .ok (.if_icmp .eq 9, 3) := by decide +kernel
theorem dX13_cutAll_38 : decode cX13_cutAll 38 = .ok (.iload_n 3, 1) := by decide +kernel
theorem dX13_cutAll_39 : decode cX13_cutAll 39 = .ok (.bipush 32, 2) := by decide +kernel
theorem dX13_cutAll_41 : decode cX13_cutAll 41 = .ok (.if_icmp .ne 9, 3) := by decide +kernel
theorem dX13_cutAll_44 : decode cX13_cutAll 44 = .ok (.iinc 2 1, 3) := by decide +kernel
theorem dX13_cutAll_47 : decode cX13_cutAll 47 = .ok (.goto (-30), 3) := by decide +kernel
theorem dX13_cutAll_50 : decode cX13_cutAll 50 = .ok (.iload_n 2, 1) := by decide +kernel
theorem dX13_cutAll_51 : decode cX13_cutAll 51 = .ok (.istore 4, 2) := by decide +kernel
theorem dX13_cutAll_53 : decode cX13_cutAll 53 = .ok (.lconst 0, 1) := by decide +kernel
theorem dX13_cutAll_54 : decode cX13_cutAll 54 = .ok (.lstore 5, 2) := by decide +kernel
theorem dX13_cutAll_56 : decode cX13_cutAll 56 = .ok (.aload_n 0, 1) := by decide +kernel
theorem dX13_cutAll_57 : decode cX13_cutAll 57 = .ok (.getfield 27, 3) := by decide +kernel
theorem dX13_cutAll_60 : decode cX13_cutAll 60 = .ok (.iload_n 1, 1) := by decide +kernel
theorem dX13_cutAll_61 : decode cX13_cutAll 61 = .ok (.iload_n 2, 1) := by decide +kernel
theorem dX13_cutAll_62 : decode cX13_cutAll 62 = .ok (.iastore, 1) := by decide +kernel
theorem dX13_cutAll_63 : decode cX13_cutAll 63 = .ok (.iload_n 3, 1) := by decide +kernel
theorem dX13_cutAll_64 : decode cX13_cutAll 64 = .ok (.invokestatic 166, 3) := by decide +kernel
theorem dX13_cutAll_67 : decode cX13_cutAll 67 = .ok (.ifCond .eq 85, 3) := by decide +kernel
theorem dX13_cutAll_70 : decode cX13_cutAll 70 = .ok (.iload_n 2, 1) := by decide +kernel
theorem dX13_cutAll_71 : decode cX13_cutAll 71 = .ok (.aload_n 0, 1) := by decide +kernel
theorem dX13_cutAll_72 : decode cX13_cutAll 72 = .ok (.getfield 170, 3) := by decide +kernel
theorem dX13_cutAll_75 : decode cX13_cutAll 75 = .ok (.if_icmp .ge 54, 3) := by decide +kernel
theorem dX13_cutAll_78 : decode cX13_cutAll 78 = .ok (.aload_n 0, 1) := by decide +kernel
theorem dX13_cutAll_79 : decode cX13_cutAll 79 = .ok (.getfield 14, 3) := by decide +kernel
theorem dX13_cutAll_82 : decode cX13_cutAll 82 = .ok (.iload_n 2, 1) := by decide +kernel
theorem dX13_cutAll_83 : decode cX13_cutAll 83 = .ok (.iaload, 1) := by decide +kernel
theorem dX13_cutAll_84 : decode cX13_cutAll 84 = .ok (.invokestatic 166, 3) := by decide +kernel
theorem dX13_cutAll_87 : decode cX13_cutAll 87 = .ok (.ifCond .eq 42, 3) := by decide +kernel
theorem dX13_cutAll_90 : decode cX13_cutAll 90 = .ok (.iload_n 2, 1) := by decide +kernel
theorem dX13_cutAll_91 : decode cX13_cutAll 91 = .ok (.iload 4, 2) := by decide +kernel
theorem dX13_cutAll_93 : decode cX13_cutAll 93 = .ok (.isub, 1) := by decide +kernel
theorem dX13_cutAll_94 : decode cX13_cutAll 94 = .ok (.bipush 8, 2) := by decide +kernel
theorem dX13_cutAll_96 : decode cX13_cutAll 96 = .ok (.if_icmp .ge 23, 3) := by decide +kernel
theorem dX13_cutAll_99 : decode cX13_cutAll 99 = .ok (.ldc2_w 173, 3) := by decide +kernel
theorem dX13_cutAll_102 : decode cX13_cutAll 102 = .ok (.lload 5, 2) := by decide +kernel
theorem dX13_cutAll_104 : decode cX13_cutAll 104 = .ok (.lmul, 1) := by decide +kernel
theorem dX13_cutAll_105 : decode cX13_cutAll 105 = .ok (.aload_n 0, 1) := by decide +kernel
theorem dX13_cutAll_106 : decode cX13_cutAll 106 = .ok (.getfield 14, 3) := by decide +kernel
theorem dX13_cutAll_109 : decode cX13_cutAll 109 = .ok (.iload_n 2, 1) := by decide +kernel
theorem dX13_cutAll_110 : decode cX13_cutAll 110 = .ok (.iaload, 1) := by decide +kernel
theorem dX13_cutAll_111 : decode cX13_cutAll 111 = .ok (.invokestatic 175, 3) := by decide +kernel
theorem dX13_cutAll_114 : decode cX13_cutAll 114 = .ok (.i2l, 1) := by decide +kernel
theorem dX13_cutAll_115 : decode cX13_cutAll 115 = .ok (.ladd, 1) := by decide +kernel
theorem dX13_cutAll_116 : decode cX13_cutAll 116 = .ok (.goto 5, 3) := by decide +kernel
theorem dX13_cutAll_119 : decode cX13_cutAll 119 = .ok (.lload 5, 2) := by decide +kernel
theorem dX13_cutAll_121 : decode cX13_cutAll 121 = .ok (.lstore 5, 2) := by decide +kernel
theorem dX13_cutAll_123 : decode cX13_cutAll 123 = .ok (.iinc 2 1, 3) := by decide +kernel
theorem dX13_cutAll_126 : decode cX13_cutAll 126 = .ok (.goto (-56), 3) := by decide +kernel
theorem dX13_cutAll_129 : decode cX13_cutAll 129 = .ok (.aload_n 0, 1) := by decide +kernel
theorem dX13_cutAll_130 : decode cX13_cutAll 130 = .ok (.getfield 24, 3) := by decide +kernel
theorem dX13_cutAll_133 : decode cX13_cutAll 133 = .ok (.iload_n 1, 1) := by decide +kernel
theorem dX13_cutAll_134 : decode cX13_cutAll 134 = .ok (.iload_n 2, 1) := by decide +kernel
theorem dX13_cutAll_135 : decode cX13_cutAll 135 = .ok (.iload 4, 2) := by decide +kernel
theorem dX13_cutAll_137 : decode cX13_cutAll 137 = .ok (.isub, 1) := by decide +kernel
theorem dX13_cutAll_138 : decode cX13_cutAll 138 = .ok (.bipush 8, 2) := by decide +kernel
theorem dX13_cutAll_140 : decode cX13_cutAll 140 = .ok (.if_icmp .le 7, 3) := by decide +kernel
theorem dX13_cutAll_143 : decode cX13_cutAll 143 = .ok (.iconst 4, 1) := by decide +kernel
theorem dX13_cutAll_144 : decode cX13_cutAll 144 = .ok (.goto 4, 3) := by decide +kernel
theorem dX13_cutAll_147 : decode cX13_cutAll 147 = .ok (.iconst 1, 1) := by decide +kernel
theorem dX13_cutAll_148 : decode cX13_cutAll 148 = .ok (.iastore, 1) := by decide +kernel
theorem dX13_cutAll_149 : decode cX13_cutAll 149 = .ok (.goto 116, 3) := by decide +kernel
theorem dX13_cutAll_152 : decode cX13_cutAll 152 = .ok (.iload_n 3, 1) := by decide +kernel
theorem dX13_cutAll_153 : decode cX13_cutAll 153 = .ok (.invokestatic 179, 3) := by decide +kernel
theorem dX13_cutAll_156 : decode cX13_cutAll 156 = .ok (.ifCond .eq 84, 3) := by decide +kernel
theorem dX13_cutAll_159 : decode cX13_cutAll 159 = .ok (.iload_n 2, 1) := by decide +kernel
theorem dX13_cutAll_160 : decode cX13_cutAll 160 = .ok (.aload_n 0, 1) := by decide +kernel
theorem dX13_cutAll_161 : decode cX13_cutAll 161 = .ok (.getfield 170, 3) := by decide +kernel
theorem dX13_cutAll_164 : decode cX13_cutAll 164 = .ok (.if_icmp .ge 54, 3) := by decide +kernel
theorem dX13_cutAll_167 : decode cX13_cutAll 167 = .ok (.aload_n 0, 1) := by decide +kernel
theorem dX13_cutAll_168 : decode cX13_cutAll 168 = .ok (.getfield 14, 3) := by decide +kernel
theorem dX13_cutAll_171 : decode cX13_cutAll 171 = .ok (.iload_n 2, 1) := by decide +kernel
theorem dX13_cutAll_172 : decode cX13_cutAll 172 = .ok (.iaload, 1) := by decide +kernel
theorem dX13_cutAll_173 : decode cX13_cutAll 173 = .ok (.invokestatic 179, 3) := by decide +kernel
theorem dX13_cutAll_176 : decode cX13_cutAll 176 = .ok (.ifCond .eq 42, 3) := by decide +kernel
theorem dX13_cutAll_179 : decode cX13_cutAll 179 = .ok (.iload_n 2, 1) := by decide +kernel
theorem dX13_cutAll_180 : decode cX13_cutAll 180 = .ok (.iload 4, 2) := by decide +kernel
theorem dX13_cutAll_182 : decode cX13_cutAll 182 = .ok (.isub, 1) := by decide +kernel
theorem dX13_cutAll_183 : decode cX13_cutAll 183 = .ok (.iconst 4, 1) := by decide +kernel
theorem dX13_cutAll_184 : decode cX13_cutAll 184 = .ok (.if_icmp .ge 24, 3) := by decide +kernel
theorem dX13_cutAll_187 : decode cX13_cutAll 187 = .ok (.ldc2_w 182, 3) := by decide +kernel
theorem dX13_cutAll_190 : decode cX13_cutAll 190 = .ok (.lload 5, 2) := by decide +kernel
theorem dX13_cutAll_192 : decode cX13_cutAll 192 = .ok (.lmul, 1) := by decide +kernel
theorem dX13_cutAll_193 : decode cX13_cutAll 193 = .ok (.aload_n 0, 1) := by decide +kernel
theorem dX13_cutAll_194 : decode cX13_cutAll 194 = .ok (.getfield 14, 3) := by decide +kernel
theorem dX13_cutAll_197 : decode cX13_cutAll 197 = .ok (.iload_n 2, 1) := by decide +kernel
theorem dX13_cutAll_198 : decode cX13_cutAll 198 = .ok (.iaload, 1) := by decide +kernel
theorem dX13_cutAll_199 : decode cX13_cutAll 199 = .ok (.i2l, 1) := by decide +kernel
theorem dX13_cutAll_200 : decode cX13_cutAll 200 = .ok (.ladd, 1) := by decide +kernel
theorem dX13_cutAll_201 : decode cX13_cutAll 201 = .ok (.ldc2_w 184, 3) := by decide +kernel
theorem dX13_cutAll_204 : decode cX13_cutAll 204 = .ok (.lsub, 1) := by decide +kernel
theorem dX13_cutAll_205 : decode cX13_cutAll 205 = .ok (.goto 5, 3) := by decide +kernel
theorem dX13_cutAll_208 : decode cX13_cutAll 208 = .ok (.lload 5, 2) := by decide +kernel
theorem dX13_cutAll_210 : decode cX13_cutAll 210 = .ok (.lstore 5, 2) := by decide +kernel
theorem dX13_cutAll_212 : decode cX13_cutAll 212 = .ok (.iinc 2 1, 3) := by decide +kernel
theorem dX13_cutAll_215 : decode cX13_cutAll 215 = .ok (.goto (-56), 3) := by decide +kernel
theorem dX13_cutAll_218 : decode cX13_cutAll 218 = .ok (.aload_n 0, 1) := by decide +kernel
theorem dX13_cutAll_219 : decode cX13_cutAll 219 = .ok (.getfield 24, 3) := by decide +kernel
theorem dX13_cutAll_222 : decode cX13_cutAll 222 = .ok (.iload_n 1, 1) := by decide +kernel
theorem dX13_cutAll_223 : decode cX13_cutAll 223 = .ok (.iload_n 2, 1) := by decide +kernel
theorem dX13_cutAll_224 : decode cX13_cutAll 224 = .ok (.iload 4, 2) := by decide +kernel
theorem dX13_cutAll_226 : decode cX13_cutAll 226 = .ok (.isub, 1) := by decide +kernel
theorem dX13_cutAll_227 : decode cX13_cutAll 227 = .ok (.iconst 4, 1) := by decide +kernel
theorem dX13_cutAll_228 : decode cX13_cutAll 228 = .ok (.if_icmp .le 7, 3) := by decide +kernel
theorem dX13_cutAll_231 : decode cX13_cutAll 231 = .ok (.iconst 4, 1) := by decide +kernel
theorem dX13_cutAll_232 : decode cX13_cutAll 232 = .ok (.goto 4, 3) := by decide +kernel
theorem dX13_cutAll_235 : decode cX13_cutAll 235 = .ok (.iconst 2, 1) := by decide +kernel
theorem dX13_cutAll_236 : decode cX13_cutAll 236 = .ok (.iastore, 1) := by decide +kernel
theorem dX13_cutAll_237 : decode cX13_cutAll 237 = .ok (.goto 28, 3) := by decide +kernel
theorem dX13_cutAll_240 : decode cX13_cutAll 240 = .ok (.iload_n 3, 1) := by decide +kernel
theorem dX13_cutAll_241 : decode cX13_cutAll 241 = .ok (.i2l, 1) := by decide +kernel
theorem dX13_cutAll_242 : decode cX13_cutAll 242 = .ok (.lstore 5, 2) := by decide +kernel
theorem dX13_cutAll_244 : decode cX13_cutAll 244 = .ok (.aload_n 0, 1) := by decide +kernel
theorem dX13_cutAll_245 : decode cX13_cutAll 245 = .ok (.getfield 24, 3) := by decide +kernel
theorem dX13_cutAll_248 : decode cX13_cutAll 248 = .ok (.iload_n 1, 1) := by decide +kernel
theorem dX13_cutAll_249 : decode cX13_cutAll 249 = .ok (.iload_n 3, 1) := by decide +kernel
theorem dX13_cutAll_250 : decode cX13_cutAll 250 = .ok (.invokestatic 186, 3) := by decide +kernel
theorem dX13_cutAll_253 : decode cX13_cutAll 253 = .ok (.ifCond .eq 7, 3) := by decide +kernel
theorem dX13_cutAll_256 : decode cX13_cutAll 256 = .ok (.iconst 3, 1) := by decide +kernel
theorem dX13_cutAll_257 : decode cX13_cutAll 257 = .ok (.goto 4, 3) := by decide +kernel
theorem dX13_cutAll_260 : decode cX13_cutAll 260 = .ok (.iconst 4, 1) := by decide +kernel
theorem dX13_cutAll_261 : decode cX13_cutAll 261 = .ok (.iastore, 1) := by decide +kernel
theorem dX13_cutAll_262 : decode cX13_cutAll 262 = .ok (.iinc 2 1, 3) := by decide +kernel
theorem dX13_cutAll_265 : decode cX13_cutAll 265 = .ok (.aload_n 0, 1) := by decide +kernel
theorem dX13_cutAll_266 : decode cX13_cutAll 266 = .ok (.getfield 30, 3) := by decide +kernel
theorem dX13_cutAll_269 : decode cX13_cutAll 269 = .ok (.iload_n 1, 1) := by decide +kernel
theorem dX13_cutAll_270 : decode cX13_cutAll 270 = .ok (.lload 5, 2) := by decide +kernel
theorem dX13_cutAll_272 : decode cX13_cutAll 272 = .ok (.lastore, 1) := by decide +kernel
theorem dX13_cutAll_273 : decode cX13_cutAll 273 = .ok (.iinc 1 1, 3) := by decide +kernel
theorem dX13_cutAll_276 : decode cX13_cutAll 276 = .ok (.goto (-259), 3) := by decide +kernel
theorem dX13_cutAll_279 : decode cX13_cutAll 279 = .ok (.aload_n 0, 1) := by decide +kernel
theorem dX13_cutAll_280 : decode cX13_cutAll 280 = .ok (.getfield 24, 3) := by decide +kernel
theorem dX13_cutAll_283 : decode cX13_cutAll 283 = .ok (.iload_n 1, 1) := by decide +kernel
theorem dX13_cutAll_284 : decode cX13_cutAll 284 = .ok (.iconst 0, 1) := by decide +kernel
theorem dX13_cutAll_285 : decode cX13_cutAll 285 = .ok (.iastore, 1) := by decide +kernel
theorem dX13_cutAll_286 : decode cX13_cutAll 286 = .ok (.aload_n 0, 1) := by decide +kernel
theorem dX13_cutAll_287 : decode cX13_cutAll 287 = .ok (.getfield 27, 3) := by decide +kernel
theorem dX13_cutAll_290 : decode cX13_cutAll 290 = .ok (.iload_n 1, 1) := by decide +kernel
theorem dX13_cutAll_291 : decode cX13_cutAll 291 = .ok (.aload_n 0, 1) := by decide +kernel
theorem dX13_cutAll_292 : decode cX13_cutAll 292 = .ok (.getfield 170, 3) := by decide +kernel
theorem dX13_cutAll_295 : decode cX13_cutAll 295 = .ok (.iastore, 1) := by decide +kernel
theorem dX13_cutAll_296 : decode cX13_cutAll 296 = .ok (.aload_n 0, 1) := by decide +kernel
theorem dX13_cutAll_297 : decode cX13_cutAll 297 = .ok (.iconst 0, 1) := by decide +kernel
theorem dX13_cutAll_298 : decode cX13_cutAll 298 = .ok (.putfield 189, 3) := by decide +kernel
theorem dX13_cutAll_301 : decode cX13_cutAll 301 = .ok (.aload_n 0, 1) := by decide +kernel
